/-! ===== FractionRowsModel: orders, determinant ===== -/
section MOD19
variable {Γ : Gm} {Z : Hz} {V : Hv} {a : Nat → Nat} {L : Nat → Nat} {T : Nat → Fr} {f n : Nat} {M : Mx} {s : St} {o : Nat → Nat}
theorem oN.keep {V' : Hv} (h : oN a V n o) (hR : mR Z a) (hE : e2A a V V') : oN a V' n o := fun p hp => by rw [hE.ar hR (by decide) (by decide)]; exact h p hp
set_option maxRecDepth 100000 in
set_option maxHeartbeats 2000000 in
theorem m_added {y : Fr} (hR : mR Z a) (hn : 1 ≤ n ∧ n ≤ 5) (h2 : vI V 9 2 (a 0) = nI n) (hL : mL a V T L) (hM : ∀ p k, p < n → k ≤ n → T (40 + 6 * p + k) = M p k) (ho : mOk n M) (hO : oN a V n o) (h108 : T 108 = y) (oy : fok y) : zCt Γ mX10_added 5 125 0 0 [.ref (a 0)] (Z, V) (pZ (fun r S' => ∃ V' T' L', S' = (Z, V') ∧ e2A a V V' ∧ mL a V' T' L' ∧ tZ T T' ∧ ((detA n M o y = none ∧ r = false) ∨ ∃ z, detA n M o y = some z ∧ r = true ∧ T' 108 = z ∧ fok z))) := by
  refine zCt.of [some (.ref (a 0)), none, none, none] pn_X10_added rfl (Nat.le_of_ble_eq_true rfl) rfl (fun κ F => ?_)
  obtain ⟨b0, b1, b2, b3, b4, b5, b6, b7, b8, b9, b10, b11⟩ := hR.1
  obtain ⟨r9, l9⟩ := hR.2.2.1 9 (by decide) (by decide)
  have ai : ∀ (V1 : Hv), oN a V1 n o → ∀ i, i < n → vp_in (nI i) (zn Z (a 9)) ∧ vA V1 (a 9) (nI i).toNatClampNeg = nI (o i) := fun V1 h i hi => ⟨by rw [l9]; exact vp_in_nI (by omega) (by decide), by rw [nI_clamp (by omega)]; exact (h i hi).1⟩
  obtain ⟨R, hRR⟩ : ∃ R, R = detA n M o y := ⟨_, rfl⟩
  rw [← hRR]
  generalize hQ : zQ Γ κ (pZ (fun r S' => ∃ V' T' L', S' = (Z, V') ∧ e2A a V V' ∧ mL a V' T' L' ∧ tZ T T' ∧ ((R = none ∧ r = false) ∨ ∃ z, R = some z ∧ r = true ∧ T' 108 = z ∧ fok z))) 0 0 = Q
  have hdet : R = match prP (fun i => M i (o i)) (n - 1) 1 (M 0 (o 0)) with
    | none => none
    | some p => if wideB (fadd y p (odI o n n 0 false)) = true then some (fadd y p (odI o n n 0 false)) else none := hRR
  have loop : ∀ (d i : Nat) (V3 : Hv) (T3 : Nat → Fr) (L3 : Nat → Nat) (p : Fr) (b : Bool) (l3 : Option Value), i + d = n → 1 ≤ i → e2A a V V3 → mL a V3 T3 L3 → tZ T T3 → T3 107 = p → T3 108 = y → fok p → prP (fun i => M i (o i)) d i p = prP (fun i => M i (o i)) (n - 1) 1 (M 0 (o 0)) → mdI o d i b = mdI o (n - 1) 1 false → zX Γ κ (Z, V3) 0 0 Q 19 [some (.ref (a 0)), some (.int (zb b)), some (.int (nI i)), l3] [] := by
    intro d
    induction d with
    | zero =>
      intro i V3 T3 L3 p b l3 hi hi1 hE3 hL3 hT3 h107 h1083 op hsp hmd
      have e2 : vI V3 9 2 (a 0) = nI n := by rw [hE3.i]; exact h2
      have hsp' : prP (fun i => M i (o i)) (n - 1) 1 (M 0 (o 0)) = some p := hsp.symm
      rw [hsp'] at hdet
      simp only at hdet
      have hb : b = odI o n n 0 false := by rw [← odd_same o hn, ← hmd]; rfl
      rw [← hb] at hdet
      refine z_iload_n F dX10_added_19 rfl ?_
      refine z_aload_n F dX10_added_20 rfl ?_
      refine z_getI F dX10_added_21 gi_X10_44 (by assumption) ?_
      refine z_ti e2 ?_
      refine z_icmp_ge (tgt := 103) F dX10_added_24 (by decide) (fun c => ?_) (fun c => ?_)
      · refine z_aload_n F dX10_added_103 rfl ?_
        refine z_bipush (v := nI 108) F dX10_added_104 (by decide) ?_
        refine z_bipush (v := nI 107) F dX10_added_106 (by decide) ?_
        refine z_bipush (v := nI 108) F dX10_added_108 (by decide) ?_
        refine z_iload_n F dX10_added_110 rfl ?_
        refine z_cVz F (m_total (x := 108) (y := 107) (c := 108) b hR hL3 (by decide) (by decide) (by decide) (by rw [h1083]; exact oy.2) (by rw [h107]; exact op.2) (by rw [h1083]; exact Nat.ne_of_gt oy.1.1) (by rw [h107]; exact Nat.ne_of_gt op.1.1)) dX10_added_111 ml_X10_140 ok_X10_total b0 (by decide) rfl rfl rfl (Nat.le_of_ble_eq_true rfl) (by decide) (by decide) (fun r S' hr => ?_)
        rw [h107, h1083] at hr
        obtain ⟨rfl, V4, L4, rfl, hE4, hL4⟩ := hr
        obtain ⟨z, hz⟩ : ∃ z, z = fadd y p b := ⟨_, rfl⟩
        rw [← hz] at hdet hL4 ⊢
        have hT4 := hT3.trans (tZ.up (T := T3) (q := 108) (x := z) (by unfold scr; omega))
        subst hQ
        by_cases hw : wideB z = true
        · rw [if_pos hw] at hdet
          have oz : fok z := by rw [hz] at hw ⊢; exact fadd_ok oy op hw
          exact z_zret F _ dX10_added_114 rfl rfl ⟨V4, _, L4, rfl, hE3.trans hE4, hL4, hT4, Or.inr ⟨z, hdet, hw, up_self _ _ _, oz⟩⟩
        · rw [if_neg hw] at hdet
          exact z_zret F _ dX10_added_114 rfl rfl ⟨V4, _, L4, rfl, hE3.trans hE4, hL4, hT4, Or.inl ⟨hdet, Bool.eq_false_iff.mpr hw⟩⟩
      · exact absurd (nI_le (by omega) (by omega)) c
    | succ d ih =>
      intro i V3 T3 L3 p b l3 hi hi1 hE3 hL3 hT3 h107 h1083 op hsp hmd
      have e2 : vI V3 9 2 (a 0) = nI n := by rw [hE3.i]; exact h2
      have hin : i < n := by omega
      have hO3 := hO.keep hR hE3
      obtain ⟨ii, vi⟩ := ai V3 hO3 i hin
      have hoi := (hO i hin).2
      have hpr : prP (fun i => M i (o i)) (d + 1) i p = if wideB (fmul p (M i (o i)) false) = true then prP (fun i => M i (o i)) d (i + 1) (fmul p (M i (o i)) false) else none := rfl
      rw [hpr] at hsp
      have hmd' : mdI o d (i + 1) (mdK o i i 0 b) = mdI o (n - 1) 1 false := hmd
      have eT : T3 (40 + 6 * i + o i) = M i (o i) := by rw [hT3 _ (by unfold scr; omega)]; exact hM i (o i) hin (by omega)
      have oM := ho i (o i) hin (by omega)
      obtain ⟨z, hz⟩ : ∃ z, z = fmul p (M i (o i)) false := ⟨_, rfl⟩
      rw [← hz] at hsp
      refine z_iload_n F dX10_added_19 rfl ?_
      refine z_aload_n F dX10_added_20 rfl ?_
      refine z_getI F dX10_added_21 gi_X10_44 (by assumption) ?_
      refine z_ti e2 ?_
      refine z_icmp_ge (tgt := 103) F dX10_added_24 (by decide) (fun c => ?_) (fun c => ?_)
      · exact absurd ((nI_leI (by omega) (by omega)).mp c) (by omega)
      · refine z_aload_n F dX10_added_27 rfl ?_
        refine z_bipush (v := nI 107) F dX10_added_28 (by decide) ?_
        refine z_bipush (v := nI 40) F dX10_added_30 (by decide) ?_
        refine z_bipush (v := nI 6) F dX10_added_32 (by decide) ?_
        refine z_iload_n F dX10_added_34 rfl ?_
        refine z_imul F dX10_added_35 ?_
        refine z_ti (pk_mul 6 i) ?_
        refine z_iadd F dX10_added_36 ?_
        refine z_ti (nI_add 40 _) ?_
        refine z_aload_n F dX10_added_37 rfl ?_
        refine z_getR F dX10_added_38 gr_X10_35 (by assumption) (by assumption) ?_
        refine z_iload_n F dX10_added_41 rfl ?_
        refine z_iald F dX10_added_42 (by assumption) (by assumption) ?_
        refine z_ti vi ?_
        refine z_iadd F dX10_added_43 ?_
        refine z_ti (nI_add _ _) ?_
        refine z_bipush (v := nI 107) F dX10_added_44 (by decide) ?_
        refine z_cVz F (m_product (x := 107) (y := 40 + 6 * i + o i) (c := 107) hR hL3 (by decide) (by omega) (by decide) (by rw [h107]; exact op.2) (by rw [eT]; exact oM.2) (by rw [h107]; exact Nat.ne_of_gt op.1.1) (by rw [eT]; exact Nat.ne_of_gt oM.1.1)) dX10_added_46 ml_X10_144 ok_X10_product b0 (by decide) rfl rfl rfl (Nat.le_of_ble_eq_true rfl) (by decide) (by decide) (fun r S' hr => ?_)
        rw [h107, eT, ← hz] at hr
        obtain ⟨rfl, V4, L4, rfl, hE4, hL4⟩ := hr
        have hT4 := hT3.trans (tZ.up (T := T3) (q := 107) (x := z) (by unfold scr; omega))
        have hE34 := hE3.trans hE4
        have hO4 := hO.keep hR hE34
        refine z_if_ne (tgt := 54) F dX10_added_49 (by decide) (fun c2 => ?_) (fun c2 => ?_)
        · have hw := zb_t c2
          rw [if_pos hw] at hsp
          have oz : fok z := by rw [hz] at hw ⊢; exact fmul_ok op oM (fun z => by cases z) hw
          have par : ∀ (e k : Nat) (b1 : Bool), k + e = i → mdK o i e k b1 = mdK o i i 0 b → zX Γ κ (Z, V4) 0 0 Q 56 [some (.ref (a 0)), some (.int (zb b1)), some (.int (nI i)), some (.int (nI k))] [] := by
            intro e
            induction e with
            | zero =>
              intro k b1 hk hb1
              have hb1' : b1 = mdK o i i 0 b := hb1
              refine z_iload_n F dX10_added_56 rfl ?_
              refine z_iload_n F dX10_added_57 rfl ?_
              refine z_icmp_ge (tgt := 97) F dX10_added_58 (by decide) (fun c3 => ?_) (fun c3 => ?_)
              · refine z_iinc_2 F dX10_added_97 rfl ?_
                refine z_goto (tgt := 19) F dX10_added_100 (by decide) ?_
                rw [show nI i + Int32.ofInt 1 = nI (i + 1) from nI_1 i]
                exact ih (i + 1) V4 _ L4 z b1 _ (by omega) (by omega) hE34 hL4 hT4 (up_self _ _ _) (by rw [up_ne _ _ (by decide)]; exact h1083) oz hsp (by rw [hb1']; exact hmd')
              · exact absurd (nI_le (by omega) (by omega)) c3
            | succ e ih2 =>
              intro k b1 hk hb1
              have hki : k < i := by omega
              have hb1' : mdK o i e (k + 1) (b1 != decide (o i < o k)) = mdK o i i 0 b := hb1
              obtain ⟨ik, vk⟩ := ai V4 hO4 k (by omega)
              obtain ⟨ii4, vi4⟩ := ai V4 hO4 i hin
              have hok := (hO k (by omega)).2
              have st : ∀ g : Bool, g = decide (o i < o k) → zX Γ κ (Z, V4) 0 0 Q 82 [some (.ref (a 0)), some (.int (zb b1)), some (.int (nI i)), some (.int (nI k))] [.int (zb g), .int (zb b1)] := by
                intro g hg
                rw [← hg] at hb1'
                have st2 : ∀ w : Bool, w = (b1 != g) → zX Γ κ (Z, V4) 0 0 Q 90 [some (.ref (a 0)), some (.int (zb b1)), some (.int (nI i)), some (.int (nI k))] [.int (zb w)] := by
                  intro w hw
                  rw [← hw] at hb1'
                  refine z_istore_n_1 F dX10_added_90 rfl ?_
                  refine z_iinc_3 F dX10_added_91 rfl ?_
                  refine z_goto (tgt := 56) F dX10_added_94 (by decide) ?_
                  rw [show nI k + Int32.ofInt 1 = nI (k + 1) from nI_1 k]
                  exact ih2 (k + 1) w (by omega) hb1'
                refine z_icmp_eq (tgt := 89) F dX10_added_82 (by decide) (fun c4 => ?_) (fun c4 => ?_)
                · have e : b1 = g := (zb_cmp _ _).mp c4
                  refine z_iconst (v := nI 0) F dX10_added_89 (by decide) ?_
                  exact st2 false (by rw [e]; cases g <;> rfl)
                · have e : ¬ b1 = g := fun z => c4 ((zb_cmp _ _).mpr z)
                  refine z_iconst (v := nI 1) F dX10_added_85 (by decide) ?_
                  refine z_goto (tgt := 90) F dX10_added_86 (by decide) ?_
                  exact st2 true (by revert e; cases b1 <;> cases g <;> decide)
              refine z_iload_n F dX10_added_56 rfl ?_
              refine z_iload_n F dX10_added_57 rfl ?_
              refine z_icmp_ge (tgt := 97) F dX10_added_58 (by decide) (fun c3 => ?_) (fun c3 => ?_)
              · exact absurd ((nI_leI (by omega) (by omega)).mp c3) (by omega)
              · refine z_iload_n F dX10_added_61 rfl ?_
                refine z_aload_n F dX10_added_62 rfl ?_
                refine z_getR F dX10_added_63 gr_X10_35 (by assumption) (by assumption) ?_
                refine z_iload_n F dX10_added_66 rfl ?_
                refine z_iald F dX10_added_67 (by assumption) (by assumption) ?_
                refine z_ti vk ?_
                refine z_aload_n F dX10_added_68 rfl ?_
                refine z_getR F dX10_added_69 gr_X10_35 (by assumption) (by assumption) ?_
                refine z_iload_n F dX10_added_72 rfl ?_
                refine z_iald F dX10_added_73 (by assumption) (by assumption) ?_
                refine z_ti vi4 ?_
                refine z_icmp_le (tgt := 81) F dX10_added_74 (by decide) (fun c4 => ?_) (fun c4 => ?_)
                · have h : ¬ o i < o k := fun z => by have := (nI_leI (by omega) (by omega)).mp c4; omega
                  refine z_iconst (v := nI 0) F dX10_added_81 (by decide) ?_
                  exact st false (decide_eq_false h).symm
                · have h : o i < o k := Nat.lt_of_not_le (fun z => c4 (nI_le z (by omega)))
                  refine z_iconst (v := nI 1) F dX10_added_77 (by decide) ?_
                  refine z_goto (tgt := 82) F dX10_added_78 (by decide) ?_
                  exact st true (decide_eq_true h).symm
          refine z_iconst (v := nI 0) F dX10_added_54 (by decide) ?_
          refine z_istore_n_3 F dX10_added_55 rfl ?_
          exact par i 0 b (by omega) rfl
        · have hw := zb_f c2
          rw [if_neg hw] at hsp
          rw [← hsp] at hdet
          subst hQ
          refine z_iconst (v := nI 0) F dX10_added_52 (by decide) ?_
          exact z_zret F false dX10_added_53 rfl rfl ⟨V4, _, L4, rfl, hE34, hL4, hT4, Or.inl ⟨hdet, rfl⟩⟩
  obtain ⟨i0, v0⟩ := ai V hO 0 (by omega)
  have ho0 := (hO 0 (by omega)).2
  have eT0 : T (40 + o 0) = M 0 (o 0) := hM 0 (o 0) (by omega) (by omega)
  refine z_aload_n F dX10_added_0 rfl ?_
  refine z_bipush (v := nI 40) F dX10_added_1 (by decide) ?_
  refine z_aload_n F dX10_added_3 rfl ?_
  refine z_getR F dX10_added_4 gr_X10_35 (by assumption) (by assumption) ?_
  refine z_iconst (v := nI 0) F dX10_added_7 (by decide) ?_
  refine z_iald F dX10_added_8 (by assumption) (by assumption) ?_
  refine z_ti v0 ?_
  refine z_iadd F dX10_added_9 ?_
  refine z_ti (nI_add 40 _) ?_
  refine z_bipush (v := nI 107) F dX10_added_10 (by decide) ?_
  refine z_cVv F (m_same (f := 40 + o 0) (g := 107) hR hL (by omega) (by decide)) dX10_added_12 ml_X10_126 ok_X10_same b0 (by decide) rfl rfl rfl (Nat.le_of_ble_eq_true rfl) (by decide) (by decide) (fun S' hS' => ?_)
  obtain ⟨V2, L2, rfl, hE2, hL2⟩ := hS'
  rw [eT0] at hL2
  refine z_iconst (v := nI 0) F dX10_added_15 (by decide) ?_
  refine z_istore_n_1 F dX10_added_16 rfl ?_
  refine z_iconst (v := nI 1) F dX10_added_17 (by decide) ?_
  refine z_istore_n_2 F dX10_added_18 rfl ?_
  exact loop (n - 1) 1 V2 _ L2 (M 0 (o 0)) false none (by omega) (by decide) hE2 hL2 (tZ.up (by unfold scr; omega)) (up_self _ _ _) (by rw [up_ne _ _ (by decide)]; exact h108) (ho 0 (o 0) (by omega) (by omega)) rfl rfl
set_option maxRecDepth 100000 in
set_option maxHeartbeats 2000000 in
theorem m_byOrders (hR : mR Z a) (hn : 1 ≤ n ∧ n ≤ 5) (h2 : vI V 9 2 (a 0) = nI n) (hL : mL a V T L) (hM : ∀ p k, p < n → k ≤ n → T (40 + 6 * p + k) = M p k) (ho : mOk n M) : zCt Γ mX10_byOrders 6 148 0 0 [.ref (a 0)] (Z, V) (pZ (fun r S' => ∃ V' T' L', S' = (Z, V') ∧ eE a V V' ∧ mL a V' T' L' ∧ tZ T T' ∧ ((detO n M = none ∧ r = false) ∨ ∃ x, detO n M = some x ∧ r = true ∧ T' 105 = x))) := by
  refine zCt.of [some (.ref (a 0)), none, none, none] pn_X10_byOrders rfl (Nat.le_of_ble_eq_true rfl) rfl (fun κ F => ?_)
  obtain ⟨b0, b1, b2, b3, b4, b5, b6, b7, b8, b9, b10, b11⟩ := hR.1
  obtain ⟨r9, l9⟩ := hR.2.2.1 9 (by decide) (by decide)
  obtain ⟨R, hRR⟩ : ∃ R, R = detO n M := ⟨_, rfl⟩
  rw [← hRR]
  generalize hQ : zQ Γ κ (pZ (fun r S' => ∃ V' T' L', S' = (Z, V') ∧ eE a V V' ∧ mL a V' T' L' ∧ tZ T T' ∧ ((R = none ∧ r = false) ∨ ∃ x, R = some x ∧ r = true ∧ T' 105 = x))) 0 0 = Q
  -- after the last order
  have fin : ∀ (V3 : Hv) (T3 : Nat → Fr) (L3 : Nat → Nat) (x : Fr) (l2 l3 : Option Value), eE a V V3 → mL a V3 T3 L3 → tZ T T3 → T3 108 = x → R = some x → zX Γ κ (Z, V3) 0 0 Q 31 [some (.ref (a 0)), some (.int (zb false)), l2, l3] [] := by
    intro V3 T3 L3 x l2 l3 hE3 hL3 hT3 h108 hR3
    refine z_iload_n F dX10_byOrders_31 rfl ?_
    refine z_if_eq (tgt := 105) F dX10_byOrders_32 (by decide) (fun c => ?_) (fun c => ?_)
    · refine z_aload_n F dX10_byOrders_105 rfl ?_
      refine z_bipush (v := nI 108) F dX10_byOrders_106 (by decide) ?_
      refine z_bipush (v := nI 105) F dX10_byOrders_108 (by decide) ?_
      refine z_cVv F (m_same (f := 108) (g := 105) hR hL3 (by decide) (by decide)) dX10_byOrders_110 ml_X10_126 ok_X10_same b0 (by decide) rfl rfl rfl (Nat.le_of_ble_eq_true rfl) (by decide) (by decide) (fun S' hS' => ?_)
      obtain ⟨V4, L4, rfl, hE4, hL4⟩ := hS'
      rw [h108] at hL4
      subst hQ
      refine z_iconst (v := nI 1) F dX10_byOrders_113 (by decide) ?_
      exact z_zret F true dX10_byOrders_114 rfl rfl ⟨V4, _, L4, rfl, hE3.trans hE4.e, hL4, hT3.trans (tZ.up (by unfold scr; omega)), Or.inr ⟨x, hR3, rfl, up_self _ _ _⟩⟩
    · exact absurd rfl c
  have orders : ∀ (d : Nat) (o : Nat → Nat) (V3 : Hv) (T3 : Nat → Fr) (L3 : Nat → Nat) (y : Fr) (l2 l3 : Option Value), eE a V V3 → mL a V3 T3 L3 → tZ T T3 → T3 108 = y → fok y → oN a V3 n o → ends n d o = true → detT n M d o y = R → zX Γ κ (Z, V3) 0 0 Q 31 [some (.ref (a 0)), some (.int (zb true)), l2, l3] [] := by
    intro d
    induction d with
    | zero => intro o V3 T3 L3 y l2 l3 _ _ _ _ _ _ he; cases he
    | succ d ih =>
      intro o V3 T3 L3 y l2 l3 hE3 hL3 hT3 h108 oy hO3 he hsp
      have e2 : vI V3 9 2 (a 0) = nI n := by rw [hE3.i (by decide) (by decide)]; exact h2
      have ai : ∀ i, i < n → vp_in (nI i) (zn Z (a 9)) ∧ vA V3 (a 9) (nI i).toNatClampNeg = nI (o i) := fun i hi => ⟨by rw [l9]; exact vp_in_nI (by omega) (by decide), by rw [nI_clamp (by omega)]; exact (hO3 i hi).1⟩
      have hM3 : ∀ p k, p < n → k ≤ n → T3 (40 + 6 * p + k) = M p k := fun p k hp hk => by rw [hT3 _ (by unfold scr; omega)]; exact hM p k hp hk
      have hde : detT n M (d + 1) o y = match detS n M o y with
        | none => none
        | some y => match nxt n o with
          | none => some y
          | some o' => detT n M d o' y := rfl
      have hen : ends n (d + 1) o = match nxt n o with
        | none => true
        | some o' => ends n d o' := rfl
      rw [hde] at hsp
      rw [hen] at he
      -- on to the next order
      have next : ∀ (V4 : Hv) (T4 : Nat → Fr) (L4 : Nat → Nat) (y4 : Fr) (l2 l3 l1 : Option Value), e2A a V3 V4 → mL a V4 T4 L4 → tZ T T4 → T4 108 = y4 → fok y4 → detS n M o y = some y4 → zX Γ κ (Z, V4) 0 0 Q 97 [some (.ref (a 0)), l1, l2, l3] [] := by
        intro V4 T4 L4 y4 l2 l3 l1 hE4 hL4 hT4 h1084 oy4 hS4
        rw [hS4] at hsp
        simp only at hsp
        have e24 : vI V4 9 2 (a 0) = nI n := by rw [hE4.i]; exact e2
        refine z_aload_n F dX10_byOrders_97 rfl ?_
        refine z_cVz F (m_isNext (o := o) hR hn e24 (hO3.keep hR hE4)) dX10_byOrders_98 ml_X10_205 ok_X10_isNext b0 (by decide) rfl rfl rfl (Nat.le_of_ble_eq_true rfl) (by decide) (by decide) (fun r S' hr => ?_)
        obtain ⟨V5, rfl, hE5, hr⟩ := hr
        have hL5 : mL a V5 T4 L4 := by
          unfold mL
          rw [hE5.ar hR (by decide) (by decide) (by decide) (fun j hj => by omega), hE5.ar hR (by decide) (by decide) (by decide) (fun j hj => by omega)]
          exact hL4
        have hE45 : eE a V V5 := (hE3.trans hE4.e).trans (hE5.mono (fun _ _ _ z => z.elim) (fun b ⟨k, hk, z⟩ => ⟨k, by omega, z⟩))
        refine z_istore_n_1 F dX10_byOrders_101 rfl ?_
        refine z_goto (tgt := 31) F dX10_byOrders_102 (by decide) ?_
        rcases hr with ⟨hr1, rfl⟩ | ⟨o', hr1, rfl, hO5⟩
        · rw [hr1] at hsp
          exact fin V5 T4 L4 y4 _ _ hE45 hL5 hT4 h1084 hsp.symm
        · rw [hr1] at hsp he
          simp only at hsp he
          exact ih o' V5 T4 L4 y4 _ _ hE45 hL5 hT4 h1084 oy4 hO5 he hsp
      obtain ⟨g, hg⟩ : ∃ g : Nat → Fr, g = fun i => M i (o i) := ⟨_, rfl⟩
      have hdS : detS n M o y = if mz g n 0 = true then some y else detA n M o y := by rw [hg]; rfl
      have chk : ∀ (e i : Nat) (b : Bool), i + e = n → (b && !mz g e i) = !mz g n 0 → zX Γ κ (Z, V3) 0 0 Q 39 [some (.ref (a 0)), some (.int (zb true)), some (.int (zb b)), some (.int (nI i))] [] := by
        intro e
        induction e with
        | zero =>
          intro i b hi hb
          have hb' : b = !mz g n 0 := by rw [← hb]; show b = (b && !false); simp
          refine z_iload_n F dX10_byOrders_39 rfl ?_
          refine z_aload_n F dX10_byOrders_40 rfl ?_
          refine z_getI F dX10_byOrders_41 gi_X10_44 (by assumption) ?_
          refine z_ti e2 ?_
          refine z_icmp_ge (tgt := 84) F dX10_byOrders_44 (by decide) (fun c => ?_) (fun c => ?_)
          · refine z_iload_n F dX10_byOrders_84 rfl ?_
            refine z_if_eq (tgt := 97) F dX10_byOrders_85 (by decide) (fun c2 => ?_) (fun c2 => ?_)
            · have h := (zb_eq0 _).mp c2
              rw [h] at hb'
              have hm : mz g n 0 = true := by
                cases hx : mz g n 0
                · rw [hx] at hb'; cases hb'
                · rfl
              rw [if_pos hm] at hdS
              exact next V3 T3 L3 y _ _ _ (eG.refl V3) hL3 hT3 h108 oy hdS
            · have h := zb_t c2
              rw [h] at hb'
              have hm : ¬ mz g n 0 = true := fun z => by rw [z] at hb'; cases hb'
              rw [if_neg hm] at hdS
              refine z_aload_n F dX10_byOrders_88 rfl ?_
              refine z_cVz F (m_added (o := o) (M := M) hR hn e2 hL3 hM3 ho hO3 h108 oy) dX10_byOrders_89 ml_X10_202 ok_X10_added b0 (by decide) rfl rfl rfl (Nat.le_of_ble_eq_true rfl) (by decide) (by decide) (fun r S' hr => ?_)
              obtain ⟨V4, T4, L4, rfl, hE4, hL4, hT4, hr⟩ := hr
              rcases hr with ⟨hr1, rfl⟩ | ⟨z, hr1, rfl, h1084, oz⟩
              · rw [hr1] at hdS
                rw [hdS] at hsp
                refine z_if_ne (tgt := 97) F dX10_byOrders_92 (by decide) (fun c3 => ?_) (fun c3 => ?_)
                · exact absurd rfl c3
                · subst hQ
                  refine z_iconst (v := nI 0) F dX10_byOrders_95 (by decide) ?_
                  exact z_zret F false dX10_byOrders_96 rfl rfl ⟨V4, T4, L4, rfl, hE3.trans hE4.e, hL4, hT3.trans hT4, Or.inl ⟨hsp.symm, rfl⟩⟩
              · rw [hr1] at hdS
                refine z_if_ne (tgt := 97) F dX10_byOrders_92 (by decide) (fun c3 => ?_) (fun c3 => ?_)
                · exact next V4 T4 L4 z _ _ _ hE4 hL4 (hT3.trans hT4) h1084 oz hdS
                · exact absurd c3 (by decide)
          · exact absurd (nI_le (by omega) (by omega)) c
        | succ e ih2 =>
          intro i b hi hb
          have hin : i < n := by omega
          obtain ⟨ii, vi⟩ := ai i hin
          have hoi := (hO3 i hin).2
          have hmz : mz g (e + 1) i = if (g i).2.1 = 0 then true else mz g e (i + 1) := rfl
          rw [hmz] at hb
          have st : ∀ b' : Bool, (b' && !mz g e (i + 1)) = !mz g n 0 → zX Γ κ (Z, V3) 0 0 Q 77 [some (.ref (a 0)), some (.int (zb true)), some (.int (zb b)), some (.int (nI i))] [.int (zb b')] := by
            intro b' hb'
            refine z_istore_n_2 F dX10_byOrders_77 rfl ?_
            refine z_iinc_3 F dX10_byOrders_78 rfl ?_
            refine z_goto (tgt := 39) F dX10_byOrders_81 (by decide) ?_
            rw [show nI i + Int32.ofInt 1 = nI (i + 1) from nI_1 i]
            exact ih2 (i + 1) b' (by omega) hb'
          refine z_iload_n F dX10_byOrders_39 rfl ?_
          refine z_aload_n F dX10_byOrders_40 rfl ?_
          refine z_getI F dX10_byOrders_41 gi_X10_44 (by assumption) ?_
          refine z_ti e2 ?_
          refine z_icmp_ge (tgt := 84) F dX10_byOrders_44 (by decide) (fun c => ?_) (fun c => ?_)
          · exact absurd ((nI_leI (by omega) (by omega)).mp c) (by omega)
          · refine z_iload_n F dX10_byOrders_47 rfl ?_
            refine z_if_eq (tgt := 76) F dX10_byOrders_48 (by decide) (fun c2 => ?_) (fun c2 => ?_)
            · have h := (zb_eq0 _).mp c2
              rw [h] at hb
              refine z_iconst (v := nI 0) F dX10_byOrders_76 (by decide) ?_
              exact st false (by rw [← hb]; rfl)
            · have h := zb_t c2
              rw [h] at hb
              have eT : T3 (40 + 6 * i + o i) = g i := by rw [hg]; exact hM3 i (o i) hin (by omega)
              refine z_aload_n F dX10_byOrders_51 rfl ?_
              refine z_bipush (v := nI 40) F dX10_byOrders_52 (by decide) ?_
              refine z_bipush (v := nI 6) F dX10_byOrders_54 (by decide) ?_
              refine z_iload_n F dX10_byOrders_56 rfl ?_
              refine z_imul F dX10_byOrders_57 ?_
              refine z_ti (pk_mul 6 i) ?_
              refine z_iadd F dX10_byOrders_58 ?_
              refine z_ti (nI_add 40 _) ?_
              refine z_aload_n F dX10_byOrders_59 rfl ?_
              refine z_getR F dX10_byOrders_60 gr_X10_35 (by assumption) (by assumption) ?_
              refine z_iload_n F dX10_byOrders_63 rfl ?_
              refine z_iald F dX10_byOrders_64 (by assumption) (by assumption) ?_
              refine z_ti vi ?_
              refine z_iadd F dX10_byOrders_65 ?_
              refine z_ti (nI_add _ _) ?_
              refine z_cVz F (m_isZero (f := 40 + 6 * i + o i) hR hL3 (by omega)) dX10_byOrders_66 ml_X10_92 ok_X10_isZero b0 (by decide) rfl rfl rfl (Nat.le_of_ble_eq_true rfl) (by decide) (by decide) (fun r S' hr => ?_)
              obtain ⟨rfl, rfl⟩ := hr
              rw [eT]
              refine z_if_ne (tgt := 76) F dX10_byOrders_69 (by decide) (fun c3 => ?_) (fun c3 => ?_)
              · have h5 := of_decide_eq_true (zb_t c3)
                rw [if_pos h5] at hb
                refine z_iconst (v := nI 0) F dX10_byOrders_76 (by decide) ?_
                exact st false (by rw [← hb]; rfl)
              · have h5 : ¬ (g i).2.1 = 0 := fun e => zb_f c3 (decide_eq_true e)
                rw [if_neg h5] at hb
                refine z_iconst (v := nI 1) F dX10_byOrders_72 (by decide) ?_
                refine z_goto (tgt := 77) F dX10_byOrders_73 (by decide) ?_
                exact st true hb
      refine z_iload_n F dX10_byOrders_31 rfl ?_
      refine z_if_eq (tgt := 105) F dX10_byOrders_32 (by decide) (fun c => ?_) (fun c => ?_)
      · exact absurd c (by decide)
      · refine z_iconst (v := nI 1) F dX10_byOrders_35 (by decide) ?_
        refine z_istore_n_2 F dX10_byOrders_36 rfl ?_
        refine z_iconst (v := nI 0) F dX10_byOrders_37 (by decide) ?_
        refine z_istore_n_3 F dX10_byOrders_38 rfl ?_
        exact chk n 0 true (by omega) (by rw [Bool.true_and])
  have first : ∀ (d i : Nat) (V1 : Hv), i + d = n → eA a (fun k => k = 9) V V1 → mL a V1 T L → (∀ p, p < i → vA V1 (a 9) p = nI p) → zX Γ κ (Z, V1) 0 0 Q 2 [some (.ref (a 0)), some (.int (nI i)), none, none] [] := by
    intro d
    induction d with
    | zero =>
      intro i V1 hi hE1 hL1 hp1
      have e2 : vI V1 9 2 (a 0) = nI n := by rw [hE1.i]; exact h2
      refine z_iload_n F dX10_byOrders_2 rfl ?_
      refine z_aload_n F dX10_byOrders_3 rfl ?_
      refine z_getI F dX10_byOrders_4 gi_X10_44 (by assumption) ?_
      refine z_ti e2 ?_
      refine z_icmp_ge (tgt := 23) F dX10_byOrders_7 (by decide) (fun c => ?_) (fun c => ?_)
      · refine z_aload_n F dX10_byOrders_23 rfl ?_
        refine z_bipush (v := nI 108) F dX10_byOrders_24 (by decide) ?_
        refine z_cVv F (m_nothing (f := 108) hR hL1 (by decide)) dX10_byOrders_26 ml_X10_48 ok_X10_nothing b0 (by decide) rfl rfl rfl (Nat.le_of_ble_eq_true rfl) (by decide) (by decide) (fun S' hS' => ?_)
        obtain ⟨V2, L2, rfl, hE2, hL2⟩ := hS'
        have hE12 : eE a V V2 := (hE1.mono (fun _ _ _ z => z.elim) (fun b ⟨k, hk, z⟩ => ⟨k, by omega, z⟩) : eE a V V1).trans hE2.e
        refine z_iconst (v := nI 1) F dX10_byOrders_29 (by decide) ?_
        refine z_istore_n_1 F dX10_byOrders_30 rfl ?_
        exact orders 120 (fun i => i) V2 _ L2 f0 _ _ hE12 hL2 (tZ.up (by unfold scr; omega)) (up_self _ _ _) f0_ok (fun p hp => ⟨by rw [hE2.ar hR (by decide) (by decide)]; exact hp1 p (by omega), hp⟩) (ends_n hn) hRR.symm
      · exact absurd (nI_le (by omega) (by omega)) c
    | succ d ih =>
      intro i V1 hi hE1 hL1 hp1
      have e2 : vI V1 9 2 (a 0) = nI n := by rw [hE1.i]; exact h2
      have cli : (nI i).toNatClampNeg = i := nI_clamp (by omega)
      have ii9 := ix5 (i := i) (by omega) l9
      refine z_iload_n F dX10_byOrders_2 rfl ?_
      refine z_aload_n F dX10_byOrders_3 rfl ?_
      refine z_getI F dX10_byOrders_4 gi_X10_44 (by assumption) ?_
      refine z_ti e2 ?_
      refine z_icmp_ge (tgt := 23) F dX10_byOrders_7 (by decide) (fun c => ?_) (fun c => ?_)
      · exact absurd ((nI_leI (by omega) (by omega)).mp c) (by omega)
      · refine z_aload_n F dX10_byOrders_10 rfl ?_
        refine z_getR F dX10_byOrders_11 gr_X10_35 (by assumption) (by assumption) ?_
        refine z_iload_n F dX10_byOrders_14 rfl ?_
        refine z_iload_n F dX10_byOrders_15 rfl ?_
        refine z_iast F dX10_byOrders_16 (by assumption) (by assumption) ?_
        refine z_iinc_1 F dX10_byOrders_17 rfl ?_
        refine z_goto (tgt := 2) F dX10_byOrders_20 (by decide) ?_
        rw [show nI i + Int32.ofInt 1 = nI (i + 1) from nI_1 i]
        refine ih (i + 1) _ (by omega) (hE1.trans (eA.set V1 _ rfl)) (hL1.keep hR (by decide) (by decide)) (fun p hp => ?_)
        rw [vA_sA_self, cli]
        by_cases e : p = i
        · rw [e, pk_us]
        · rw [pk_un e]; exact hp1 p (by omega)
  refine z_iconst (v := nI 0) F dX10_byOrders_0 (by decide) ?_
  refine z_istore_n_1 F dX10_byOrders_1 rfl ?_
  exact first n 0 V (by omega) (eG.refl V) hL (fun p hp => absurd hp (Nat.not_lt_zero p))
set_option maxRecDepth 100000 in
set_option maxHeartbeats 1000000 in
theorem m_determinant (way : Int32) (hR : mR Z a) (hM : rMT a V n T L s) (hO : sOk n s) : zCt Γ mX10_determinant 8 198 0 0 [.ref (a 0), .int way] (Z, V) (pI (oX Z a n V 0 (opDet n s way))) := by
  refine zCt.of [some (.ref (a 0)), some (.int way), none] pn_X10_determinant rfl (Nat.le_of_ble_eq_true rfl) rfl (fun κ F => ?_)
  obtain ⟨b0, b1, b2, -⟩ := hR.1
  refine z_aload_n F dX10_determinant_0 rfl ?_
  refine z_iconst (v := nI 0) F dX10_determinant_1 (by decide) ?_
  refine z_putI F dX10_determinant_2 pi_X10_52 (zf_9_6 _) (by assumption) ?_
  obtain ⟨V1, e1, hg, ht, hM⟩ := hM.th0
  refine z_V (Z := Z) e1 ?_
  have h2 := hM.2.2.1.1.1
  have h3 := hM.2.2.1.1.2.1
  have hcs := hM.2.2.1.1.2.2.1
  have hn := hM.1
  unfold opDet
  refine z_iload_n F dX10_determinant_5 rfl ?_
  refine z_iconst (v := nI 0) F dX10_determinant_6 (by decide) ?_
  refine z_iconst (v := nI 2) F dX10_determinant_7 (by decide) ?_
  refine z_cSz F (m_isIn way (nI 0) (nI 2)) dX10_determinant_8 ml_X10_119 ok_X10_isIn rfl rfl rfl (Nat.le_of_ble_eq_true rfl) (by decide) (by decide) (fun r S' hr => ?_)
  obtain ⟨rfl, rfl⟩ := hr
  rw [inI_le way (by decide)]
  refine z_if_ne (tgt := 16) F dX10_determinant_11 (by decide) (fun c => ?_) (fun c => ?_)
  · have h := zb_t c
    rw [if_pos h]
    obtain ⟨q, hq, rfl, eq⟩ := inI_t h (by decide)
    rw [eq]
    refine z_aload_n F dX10_determinant_16 rfl ?_
    refine z_getI F dX10_determinant_17 gi_X10_116 (by assumption) ?_
    refine z_ti h3 ?_
    refine z_bipush (v := nI 40) F dX10_determinant_20 (by decide) ?_
    refine z_icmp_ne (tgt := 28) F dX10_determinant_22 (by decide) (fun c2 => ?_) (fun c2 => ?_)
    · have h := mt (eq40 hcs).mpr c2
      have h40 := full_f h
      rw [if_neg h]
      obtain ⟨R, hRR⟩ : ∃ R, R = if nI q = 2 then detO n (tm s) else (elim q n n (tm s)).bind (detP n) := ⟨_, rfl⟩
      rw [← hRR]
      have fin : ∀ (r : Bool) (V2 : Hv) (T2 : Nat → Fr) (L2 : Nat → Nat), eE a V1 V2 → mL a V2 T2 L2 → tZ T T2 → ((R = none ∧ r = false) ∨ ∃ x, R = some x ∧ r = true ∧ T2 105 = x) → zX Γ κ (Z, V2) 0 0 (zQ Γ κ (pI (oX Z a n V 0 (keepO s R))) 0 0) 45 [some (.ref (a 0)), some (.int (nI q)), none] [.int (zb r)] := by
        intro r V2 T2 L2 hE2 hL2 hT2 hr
        have hM2 := hM.e hR hE2 hL2 hT2
        have ht2 : vI V2 9 6 (a 0) = 0 := by rw [hE2.i (by decide) (by decide)]; exact ht
        have hg2 := hg.trans (gM.ofE hE2)
        refine z_istore_n_2 F dX10_determinant_45 rfl ?_
        refine z_iload_n F dX10_determinant_46 rfl ?_
        rcases hr with ⟨hr1, rfl⟩ | ⟨x, hr1, rfl, h105⟩
        · rw [hr1]
          refine z_if_eq (tgt := 59) F dX10_determinant_47 (by decide) (fun c3 => ?_) (fun c3 => ?_)
          · refine z_aload_n F dX10_determinant_59 rfl ?_
            refine z_cVi F (m_grew hR hM2 ht2) dX10_determinant_60 ml_X10_153 ok_X10_grew b0 (by decide) rfl rfl rfl (Nat.le_of_ble_eq_true rfl) (by decide) (by decide) (fun r S' hr => ?_)
            exact z_iret F dX10_determinant_63 rfl (oX.after hg2 hr)
          · exact absurd rfl c3
        · rw [hr1]
          refine z_if_eq (tgt := 59) F dX10_determinant_47 (by decide) (fun c3 => ?_) (fun c3 => ?_)
          · exact absurd c3 (by decide)
          · refine z_aload_n F dX10_determinant_50 rfl ?_
            refine z_bipush (v := nI 105) F dX10_determinant_51 (by decide) ?_
            refine z_cVi F (m_asNumber (f := 105) hR hM2 ht2 h40 (by decide)) dX10_determinant_53 ml_X10_150 ok_X10_asNumber b0 (by decide) rfl rfl rfl (Nat.le_of_ble_eq_true rfl) (by decide) (by decide) (fun r S' hr => ?_)
            rw [h105] at hr
            refine z_goto (tgt := 63) F dX10_determinant_56 (by decide) ?_
            exact z_iret F dX10_determinant_63 rfl (oX.after hg2 hr)
      refine z_iload_n F dX10_determinant_28 rfl ?_
      refine z_iconst (v := nI 2) F dX10_determinant_29 (by decide) ?_
      refine z_icmp_ne (tgt := 40) F dX10_determinant_30 (by decide) (fun c3 => ?_) (fun c3 => ?_)
      · have hq1 : q ≤ 1 := by
          have : q ≠ 2 := fun e => c3 (by rw [e])
          omega
        rw [if_neg (show ¬ nI q = 2 from c3)] at hRR
        refine z_aload_n F dX10_determinant_40 rfl ?_
        refine z_iload_n F dX10_determinant_41 rfl ?_
        refine z_cVz F (m_byPivots (way := q) (M := tm s) hR hn h2 hM.2.1 hM.2.2.2.2.1 hO.2.1 hq1) dX10_determinant_42 ml_X10_199 ok_X10_byPivots b0 (by decide) rfl rfl rfl (Nat.le_of_ble_eq_true rfl) (by decide) (by decide) (fun r S' hr => ?_)
        rw [← hRR] at hr
        obtain ⟨V2, T2, L2, rfl, hE2, hL2, hT2, hr⟩ := hr
        exact fin r V2 T2 L2 hE2 hL2 hT2 hr
      · rw [if_pos (show nI q = 2 from c3)] at hRR
        refine z_aload_n F dX10_determinant_33 rfl ?_
        refine z_cVz F (m_byOrders (M := tm s) hR hn h2 hM.2.1 hM.2.2.2.2.1 hO.2.1) dX10_determinant_34 ml_X10_195 ok_X10_byOrders b0 (by decide) rfl rfl rfl (Nat.le_of_ble_eq_true rfl) (by decide) (by decide) (fun r S' hr => ?_)
        rw [← hRR] at hr
        obtain ⟨V2, T2, L2, rfl, hE2, hL2, hT2, hr⟩ := hr
        refine z_goto (tgt := 45) F dX10_determinant_37 (by decide) ?_
        exact fin r V2 T2 L2 hE2 hL2 hT2 hr
    · have h := (eq40 hcs).mp c2
      rw [if_pos h]
      refine z_bipush (v := (-4)) F dX10_determinant_25 (by decide) ?_
      exact z_iret F dX10_determinant_27 rfl (oX.same hg hM ht)
  · have h4 := zb_f c
    rw [if_neg h4]
    refine z_iconst (v := (-1)) F dX10_determinant_14 (by decide) ?_
    exact z_iret F dX10_determinant_15 rfl (oX.same hg hM ht)
end MOD19
