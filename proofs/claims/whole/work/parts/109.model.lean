/-! ===== FractionRowsModel: lowest, total, product, ratio, setFraction ===== -/
theorem bl448 {x : Nat} (h : x < 268435456 ^ 16) : bl x ≤ 448 := by
  have e : (268435456 : Nat) ^ 16 = 2 ^ 448 := by decide
  rw [e] at h; exact bl_le.mpr h
theorem norm_same {s : Bool} {u v : Nat} (hu : u ≠ 0) (hg : Nat.gcd u v = 1) : norm s u v = (s, u, v) := by
  unfold norm
  rw [if_neg hu, hg, Nat.div_one, Nat.div_one]
def mW (Z : Hz) (V : Hv) (a : Nat → Nat) (T : Nat → Fr) (c : Nat) (x : Fr) : Bool → Hs → Prop := fun r S' => r = wideB x ∧ mU Z V a (va_up T c x) S'
theorem fr3 (x : Fr) : x = (x.1, x.2.1, x.2.2) := rfl
section MOD9
variable {Γ : Gm} {Z : Hz} {V : Hv} {a : Nat → Nat} {L : Nat → Nat} {T : Nat → Fr} {f x y c : Nat}
theorem mU.after {V1 : Hv} {S' : Hs} (h1 : e2A a V V1) (h : mU Z V1 a T S') : mU Z V a T S' := by
  obtain ⟨V', L', e, h2, h3⟩ := h
  exact ⟨V', L', e, h1.trans h2, h3⟩
set_option maxRecDepth 100000 in
set_option maxHeartbeats 1000000 in
theorem m_lowest (hR : mR Z a) (hL : mL a V T L) (hf : f < 112) (hv0 : (T f).2.2 ≠ 0) (hvl : (T f).2.2 < 4294967296 ^ 12) : zCt Γ mX10_lowest 3 78 0 0 [.ref (a 0), .int (nI f)] (Z, V) (pZ (mW Z V a T f (norm (T f).1 (T f).2.1 (T f).2.2))) := by
  refine zCt.of [some (.ref (a 0)), some (.int (nI f))] pn_X10_lowest rfl (Nat.le_of_ble_eq_true rfl) rfl (fun κ F => ?_)
  obtain ⟨b0, b1, b2, -⟩ := hR.1
  have n21 := hR.n21
  obtain ⟨hu, hv, hb⟩ := hL.2 f hf
  have hs0 : 2 * f < 240 := by omega
  have hs1 : 2 * f + 1 < 240 := by omega
  obtain ⟨z, hz⟩ : ∃ z, z = norm (T f).1 (T f).2.1 (T f).2.2 := ⟨_, rfl⟩
  rw [← hz]
  have fin : ∀ V1 L1, e2A a V V1 → mL a V1 (va_up T f z) L1 → zX Γ κ (Z, V1) 0 0 (zQ Γ κ (pZ (mW Z V a T f z)) 0 0) 117 [some (.ref (a 0)), some (.int (nI f))] [] := by
    intro V1 L1 hE1 hL1
    obtain ⟨hu1, hv1, hb1⟩ := hL1.2 f hf
    rw [up_self] at hu1 hv1 hb1
    have hbu := bl448 (hL1.1.2 (2 * f) hs0)
    have hbv := bl448 (hL1.1.2 (2 * f + 1) hs1)
    rw [hu1] at hbu
    rw [hv1] at hbv
    have no : ¬ (bl z.2.1 ≤ 192 ∧ bl z.2.2 ≤ 192) → zX Γ κ (Z, V1) 0 0 (zQ Γ κ (pZ (mW Z V a T f z)) 0 0) 149 [some (.ref (a 0)), some (.int (nI f))] [] := by
      intro h
      have hw : false = wideB z := (by
        cases e : wideB z
        · rfl
        · have := wideB_iff.mp e
          exact absurd ⟨bl192.mpr this.1, bl192.mpr this.2⟩ h)
      refine z_iconst (v := nI 0) F dX10_lowest_149 (by decide) ?_
      exact z_zret F false dX10_lowest_150 rfl rfl ⟨hw, V1, L1, rfl, hE1, hL1⟩
    refine z_aload_n F dX10_lowest_117 rfl ?_
    refine z_iconst (v := nI 2) F dX10_lowest_118 (by decide) ?_
    refine z_iload_n F dX10_lowest_119 rfl ?_
    refine z_imul F dX10_lowest_120 ?_
    refine z_ti (pk_mul 2 f) ?_
    refine z_cVi F (m_bitsOf (s := 2 * f) hR hL1.1 hs0) dX10_lowest_121 ml_X10_65 ok_X10_bitsOf b0 (by decide) rfl rfl rfl (Nat.le_of_ble_eq_true rfl) (by decide) (by decide) (fun r S' hr => ?_)
    obtain ⟨rfl, rfl⟩ := hr
    rw [hu1]
    refine z_sipush (v := nI 192) F dX10_lowest_124 (by decide) ?_
    refine z_icmp_gt (tgt := 149) F dX10_lowest_127 (by decide) (fun c1 => ?_) (fun c1 => ?_)
    · exact no (fun h => by have := (nI_ltI (by omega) (by omega)).mp c1; omega)
    · have h1 : bl z.2.1 ≤ 192 := Nat.le_of_not_lt (fun h => c1 ((nI_ltI (by omega) (by omega)).mpr h))
      refine z_aload_n F dX10_lowest_130 rfl ?_
      refine z_iconst (v := nI 2) F dX10_lowest_131 (by decide) ?_
      refine z_iload_n F dX10_lowest_132 rfl ?_
      refine z_imul F dX10_lowest_133 ?_
      refine z_ti (pk_mul 2 f) ?_
      refine z_iconst (v := nI 1) F dX10_lowest_134 (by decide) ?_
      refine z_iadd F dX10_lowest_135 ?_
      refine z_ti (nI_add _ 1) ?_
      refine z_cVi F (m_bitsOf (s := 2 * f + 1) hR hL1.1 hs1) dX10_lowest_136 ml_X10_65 ok_X10_bitsOf b0 (by decide) rfl rfl rfl (Nat.le_of_ble_eq_true rfl) (by decide) (by decide) (fun r S' hr => ?_)
      obtain ⟨rfl, rfl⟩ := hr
      rw [hv1]
      refine z_sipush (v := nI 192) F dX10_lowest_139 (by decide) ?_
      refine z_icmp_gt (tgt := 149) F dX10_lowest_142 (by decide) (fun c2 => ?_) (fun c2 => ?_)
      · exact no (fun h => by have := (nI_ltI (by omega) (by omega)).mp c2; omega)
      · have h2 : bl z.2.2 ≤ 192 := Nat.le_of_not_lt (fun h => c2 ((nI_ltI (by omega) (by omega)).mpr h))
        have hw : true = wideB z := (wideB_iff.mpr ⟨bl192.mp h1, bl192.mp h2⟩).symm
        refine z_iconst (v := nI 1) F dX10_lowest_145 (by decide) ?_
        refine z_goto (tgt := 150) F dX10_lowest_146 (by decide) ?_
        exact z_zret F true dX10_lowest_150 rfl rfl ⟨hw, V1, L1, rfl, hE1, hL1⟩
  refine z_aload_n F dX10_lowest_0 rfl ?_
  refine z_iload_n F dX10_lowest_1 rfl ?_
  refine z_cVz F (m_isZero hR hL hf) dX10_lowest_2 ml_X10_92 ok_X10_isZero b0 (by decide) rfl rfl rfl (Nat.le_of_ble_eq_true rfl) (by decide) (by decide) (fun r S' hr => ?_)
  obtain ⟨rfl, rfl⟩ := hr
  refine z_if_eq (tgt := 15) F dX10_lowest_5 (by decide) (fun c0 => ?_) (fun c0 => ?_)
  · have hu0 : (T f).2.1 ≠ 0 := fun e => zb_f c0 (decide_eq_true e)
    refine z_aload_n F dX10_lowest_15 rfl ?_
    refine z_iconst (v := nI 2) F dX10_lowest_16 (by decide) ?_
    refine z_iload_n F dX10_lowest_17 rfl ?_
    refine z_imul F dX10_lowest_18 ?_
    refine z_ti (pk_mul 2 f) ?_
    refine z_iconst (v := nI 1) F dX10_lowest_19 (by decide) ?_
    refine z_iadd F dX10_lowest_20 ?_
    refine z_ti (nI_add _ 1) ?_
    refine z_cVz F (m_isOne (s := 2 * f + 1) hR hL.1 hs1) dX10_lowest_21 ml_X10_88 ok_X10_isOne b0 (by decide) rfl rfl rfl (Nat.le_of_ble_eq_true rfl) (by decide) (by decide) (fun r S' hr => ?_)
    obtain ⟨rfl, rfl⟩ := hr
    rw [hv]
    refine z_if_ne (tgt := 39) F dX10_lowest_24 (by decide) (fun c1 => ?_) (fun c1 => ?_)
    · have hv1 : (T f).2.2 = 1 := of_decide_eq_true (zb_t c1)
      have hzT : z = T f := by rw [hz, norm_same hu0 (by rw [hv1, Nat.gcd_one_right])]
      refine z_aload_n F dX10_lowest_39 rfl ?_
      refine z_iconst (v := nI 2) F dX10_lowest_40 (by decide) ?_
      refine z_iload_n F dX10_lowest_41 rfl ?_
      refine z_imul F dX10_lowest_42 ?_
      refine z_ti (pk_mul 2 f) ?_
      refine z_iconst (v := nI 1) F dX10_lowest_43 (by decide) ?_
      refine z_iadd F dX10_lowest_44 ?_
      refine z_ti (nI_add _ 1) ?_
      refine z_cVz F (m_isOne (s := 2 * f + 1) hR hL.1 hs1) dX10_lowest_45 ml_X10_88 ok_X10_isOne b0 (by decide) rfl rfl rfl (Nat.le_of_ble_eq_true rfl) (by decide) (by decide) (fun r S' hr => ?_)
      obtain ⟨rfl, rfl⟩ := hr
      rw [hv]
      refine z_if_ne (tgt := 117) F dX10_lowest_48 (by decide) (fun c2 => ?_) (fun c2 => ?_)
      · exact fin V L (eG.refl V) (by rw [hzT, up_id]; exact hL)
      · exact absurd (decide_eq_true hv1) (zb_f c2)
    · have hv1 : ¬ (T f).2.2 = 1 := fun e => zb_f c1 (decide_eq_true e)
      refine z_aload_n F dX10_lowest_27 rfl ?_
      refine z_iconst (v := nI 2) F dX10_lowest_28 (by decide) ?_
      refine z_iload_n F dX10_lowest_29 rfl ?_
      refine z_imul F dX10_lowest_30 ?_
      refine z_ti (pk_mul 2 f) ?_
      refine z_iconst (v := nI 2) F dX10_lowest_31 (by decide) ?_
      refine z_iload_n F dX10_lowest_32 rfl ?_
      refine z_imul F dX10_lowest_33 ?_
      refine z_ti (pk_mul 2 f) ?_
      refine z_iconst (v := nI 1) F dX10_lowest_34 (by decide) ?_
      refine z_iadd F dX10_lowest_35 ?_
      refine z_ti (nI_add _ 1) ?_
      refine z_cVv F (m_divisor (s := 2 * f) (t := 2 * f + 1) hR hL.1 hs0 hs1 (by omega) (by omega) (by rw [hu]; exact hu0) (by rw [hv]; exact hv0)) dX10_lowest_36 ml_X10_95 ok_X10_divisor b0 (by decide) rfl rfl rfl (Nat.le_of_ble_eq_true rfl) (by decide) (by decide) (fun S' hS' => ?_)
      obtain ⟨L1, ⟨V1, rfl, hE1, hG1⟩, h235, hk1⟩ := hS'
      rw [hu, hv] at h235
      have hu1 : L1 (2 * f) = (T f).2.1 := by rw [hk1 _ (by omega) (by omega) (by omega)]; exact hu
      have hv1' : L1 (2 * f + 1) = (T f).2.2 := by rw [hk1 _ (by omega) (by omega) (by omega)]; exact hv
      have hg0 : 0 < Nat.gcd (T f).2.1 (T f).2.2 := Nat.gcd_pos_of_pos_right _ (Nat.pos_of_ne_zero hv0)
      have hgl : Nat.gcd (T f).2.1 (T f).2.2 < 268435456 ^ 15 := Nat.lt_of_le_of_lt (Nat.gcd_le_right _ (Nat.pos_of_ne_zero hv0)) (lt15 hvl)
      refine z_aload_n F dX10_lowest_39 rfl ?_
      refine z_iconst (v := nI 2) F dX10_lowest_40 (by decide) ?_
      refine z_iload_n F dX10_lowest_41 rfl ?_
      refine z_imul F dX10_lowest_42 ?_
      refine z_ti (pk_mul 2 f) ?_
      refine z_iconst (v := nI 1) F dX10_lowest_43 (by decide) ?_
      refine z_iadd F dX10_lowest_44 ?_
      refine z_ti (nI_add _ 1) ?_
      refine z_cVz F (m_isOne (s := 2 * f + 1) hR hG1 hs1) dX10_lowest_45 ml_X10_88 ok_X10_isOne b0 (by decide) rfl rfl rfl (Nat.le_of_ble_eq_true rfl) (by decide) (by decide) (fun r S' hr => ?_)
      obtain ⟨rfl, rfl⟩ := hr
      rw [hv1']
      refine z_if_ne (tgt := 117) F dX10_lowest_48 (by decide) (fun c2 => ?_) (fun c2 => ?_)
      · exact absurd (of_decide_eq_true (zb_t c2)) hv1
      · refine z_aload_n F dX10_lowest_51 rfl ?_
        refine z_sipush (v := nI 235) F dX10_lowest_52 (by decide) ?_
        refine z_cVz F (m_isOne (s := 235) hR hG1 (by decide)) dX10_lowest_55 ml_X10_88 ok_X10_isOne b0 (by decide) rfl rfl rfl (Nat.le_of_ble_eq_true rfl) (by decide) (by decide) (fun r S' hr => ?_)
        obtain ⟨rfl, rfl⟩ := hr
        rw [h235]
        refine z_if_ne (tgt := 117) F dX10_lowest_58 (by decide) (fun c3 => ?_) (fun c3 => ?_)
        · have hg1 : Nat.gcd (T f).2.1 (T f).2.2 = 1 := of_decide_eq_true (zb_t c3)
          have hzT : z = T f := by rw [hz, norm_same hu0 hg1]
          exact fin V1 L1 hE1.m (by rw [hzT, up_id]; exact hL.sc hR hE1 hG1 (fun k hk => hk1 k (by omega) (by omega) (by omega)))
        · have hz2 : z = ((T f).1, (T f).2.1 / Nat.gcd (T f).2.1 (T f).2.2, (T f).2.2 / Nat.gcd (T f).2.1 (T f).2.2) := by rw [hz]; unfold norm; rw [if_neg hu0]
          refine z_aload_n F dX10_lowest_61 rfl ?_
          refine z_iconst (v := nI 2) F dX10_lowest_62 (by decide) ?_
          refine z_iload_n F dX10_lowest_63 rfl ?_
          refine z_imul F dX10_lowest_64 ?_
          refine z_ti (pk_mul 2 f) ?_
          refine z_sipush (v := nI 235) F dX10_lowest_65 (by decide) ?_
          refine z_sipush (v := nI 229) F dX10_lowest_68 (by decide) ?_
          refine z_sipush (v := nI 230) F dX10_lowest_71 (by decide) ?_
          refine z_cVv F (m_divide (s := 2 * f) (t := 235) (q := 229) (r := 230) hR hG1 hs0 (by decide) (by decide) (by decide) (by omega) (by decide) (by omega) (by decide) (by decide) (by rw [h235]; exact hg0) (by rw [h235]; exact hgl)) dX10_lowest_74 ml_X10_98 ok_X10_divide b0 (by decide) rfl rfl rfl (Nat.le_of_ble_eq_true rfl) (by decide) (by decide) (fun S' hS' => ?_)
          obtain ⟨V2, rfl, hE2, hG2⟩ := hS'
          refine z_aload_n F dX10_lowest_77 rfl ?_
          refine z_sipush (v := nI 229) F dX10_lowest_78 (by decide) ?_
          refine z_iconst (v := nI 2) F dX10_lowest_81 (by decide) ?_
          refine z_iload_n F dX10_lowest_82 rfl ?_
          refine z_imul F dX10_lowest_83 ?_
          refine z_ti (pk_mul 2 f) ?_
          refine z_cVv F (m_carryOver (s := 229) (t := 2 * f) hR hG2 (by decide) hs0) dX10_lowest_84 ml_X10_82 ok_X10_carryOver b0 (by decide) rfl rfl rfl (Nat.le_of_ble_eq_true rfl) (by decide) (by decide) (fun S' hS' => ?_)
          obtain ⟨V3, rfl, hE3, hG3⟩ := hS'
          obtain ⟨L3, hL3⟩ : ∃ L3, L3 = va_up (va_up (va_up L1 229 (L1 (2 * f) / L1 235)) 230 (L1 (2 * f) % L1 235)) (2 * f) (va_up (va_up L1 229 (L1 (2 * f) / L1 235)) 230 (L1 (2 * f) % L1 235) 229) := ⟨_, rfl⟩
          rw [← hL3] at hG3
          have q1 : L3 (2 * f) = z.2.1 := by rw [hL3, up_self, up_ne _ _ (by decide), up_self, hu1, h235, hz2]
          have q2 : L3 (2 * f + 1) = (T f).2.2 := by rw [hL3, up_ne _ _ (by omega), up_ne _ _ (by omega), up_ne _ _ (by omega), hv1']
          have q3 : L3 235 = Nat.gcd (T f).2.1 (T f).2.2 := by rw [hL3, up_ne _ _ (by omega), up_ne _ _ (by omega), up_ne _ _ (by omega), h235]
          have q4 : ∀ k, k < 224 → k ≠ 2 * f → L3 k = L k := fun k h1 h2 => by rw [hL3, up_ne _ _ h2, up_ne _ _ (by omega), up_ne _ _ (by omega), hk1 k (by omega) (by omega) (by omega)]
          refine z_aload_n F dX10_lowest_87 rfl ?_
          refine z_iconst (v := nI 2) F dX10_lowest_88 (by decide) ?_
          refine z_iload_n F dX10_lowest_89 rfl ?_
          refine z_imul F dX10_lowest_90 ?_
          refine z_ti (pk_mul 2 f) ?_
          refine z_iconst (v := nI 1) F dX10_lowest_91 (by decide) ?_
          refine z_iadd F dX10_lowest_92 ?_
          refine z_ti (nI_add _ 1) ?_
          refine z_sipush (v := nI 235) F dX10_lowest_93 (by decide) ?_
          refine z_sipush (v := nI 229) F dX10_lowest_96 (by decide) ?_
          refine z_sipush (v := nI 230) F dX10_lowest_99 (by decide) ?_
          refine z_cVv F (m_divide (s := 2 * f + 1) (t := 235) (q := 229) (r := 230) hR hG3 hs1 (by decide) (by decide) (by decide) (by omega) (by decide) (by omega) (by decide) (by decide) (by rw [q3]; exact hg0) (by rw [q3]; exact hgl)) dX10_lowest_102 ml_X10_98 ok_X10_divide b0 (by decide) rfl rfl rfl (Nat.le_of_ble_eq_true rfl) (by decide) (by decide) (fun S' hS' => ?_)
          obtain ⟨V4, rfl, hE4, hG4⟩ := hS'
          refine z_aload_n F dX10_lowest_105 rfl ?_
          refine z_sipush (v := nI 229) F dX10_lowest_106 (by decide) ?_
          refine z_iconst (v := nI 2) F dX10_lowest_109 (by decide) ?_
          refine z_iload_n F dX10_lowest_110 rfl ?_
          refine z_imul F dX10_lowest_111 ?_
          refine z_ti (pk_mul 2 f) ?_
          refine z_iconst (v := nI 1) F dX10_lowest_112 (by decide) ?_
          refine z_iadd F dX10_lowest_113 ?_
          refine z_ti (nI_add _ 1) ?_
          refine z_cVv F (m_carryOver (s := 229) (t := 2 * f + 1) hR hG4 (by decide) hs1) dX10_lowest_114 ml_X10_82 ok_X10_carryOver b0 (by decide) rfl rfl rfl (Nat.le_of_ble_eq_true rfl) (by decide) (by decide) (fun S' hS' => ?_)
          obtain ⟨V5, rfl, hE5, hG5⟩ := hS'
          have hE := (((hE1.trans hE2).trans hE3).trans hE4).trans hE5
          refine fin V5 _ hE.m (hL.put hf hG5 ?_ ?_ ?_ ?_ ?_)
          · intro k hk h1 h2
            rw [up_ne _ _ h2, up_ne _ _ (by omega), up_ne _ _ (by omega), q4 k hk h1]
          · rw [up_ne _ _ (by omega), up_ne _ _ (by omega), up_ne _ _ (by omega), q1]
          · rw [up_self, up_ne _ _ (by decide), up_self, q2, q3, hz2]
          · intro g hg
            rw [hE.2.1 _ n21]
          · rw [hE.2.1 _ n21, hb, hz2]
  · have hu0 : (T f).2.1 = 0 := of_decide_eq_true (zb_t c0)
    have hz0 : z = f0 := by rw [hz, hu0, norm_zero]
    have hw : true = wideB z := by rw [hz0]; decide
    refine z_aload_n F dX10_lowest_8 rfl ?_
    refine z_iload_n F dX10_lowest_9 rfl ?_
    refine z_cVv F (m_nothing hR hL hf) dX10_lowest_10 ml_X10_48 ok_X10_nothing b0 (by decide) rfl rfl rfl (Nat.le_of_ble_eq_true rfl) (by decide) (by decide) (fun S' hS' => ?_)
    rw [← hz0] at hS'
    refine z_iconst (v := nI 1) F dX10_lowest_13 (by decide) ?_
    exact z_zret F true dX10_lowest_14 rfl rfl ⟨hw, hS'⟩
set_option maxRecDepth 100000 in
set_option maxHeartbeats 1000000 in
theorem m_total (less : Bool) (hR : mR Z a) (hL : mL a V T L) (hx : x < 112) (hy : y < 112) (hc : c < 112) (wx : wide (T x)) (wy : wide (T y)) (vx : (T x).2.2 ≠ 0) (vy : (T y).2.2 ≠ 0) : zCt Γ mX10_total 4 99 0 0 [.ref (a 0), .int (nI x), .int (nI y), .int (nI c), .int (zb less)] (Z, V) (pZ (mW Z V a T c (fadd (T x) (T y) less))) := by
  refine zCt.of [some (.ref (a 0)), some (.int (nI x)), some (.int (nI y)), some (.int (nI c)), some (.int (zb less)), none, none] pn_X10_total rfl (Nat.le_of_ble_eq_true rfl) rfl (fun κ F => ?_)
  obtain ⟨b0, b1, b2, -⟩ := hR.1
  obtain ⟨d1, d2, d3, d4⟩ := hR.2.1
  have n21 := hR.n21
  have inx := hR.inb hx
  have iny := hR.inb hy
  have inc := hR.inb hc
  obtain ⟨hux, hvx, hbx⟩ := hL.2 x hx
  obtain ⟨huy, hvy, hby⟩ := hL.2 y hy
  have m1 := mul_lt12 wx.1 wy.2
  have m2 := mul_lt12 wy.1 wx.2
  have m3 := mul_lt12 wx.2 wy.2
  refine z_aload_n F dX10_total_0 rfl ?_
  refine z_iconst (v := nI 2) F dX10_total_1 (by decide) ?_
  refine z_iload_n F dX10_total_2 rfl ?_
  refine z_imul F dX10_total_3 ?_
  refine z_ti (pk_mul 2 x) ?_
  refine z_iconst (v := nI 2) F dX10_total_4 (by decide) ?_
  refine z_iload_n F dX10_total_5 rfl ?_
  refine z_imul F dX10_total_6 ?_
  refine z_ti (pk_mul 2 y) ?_
  refine z_iconst (v := nI 1) F dX10_total_7 (by decide) ?_
  refine z_iadd F dX10_total_8 ?_
  refine z_ti (nI_add _ 1) ?_
  refine z_sipush (v := nI 224) F dX10_total_9 (by decide) ?_
  refine z_cVv F (m_times (s := 2 * x) (t := 2 * y + 1) (c := 224) hR hL.1 (by omega) (by omega) (by decide) (by omega) (by omega) (by rw [hux, hvy]; exact lt16 m1)) dX10_total_12 ml_X10_102 ok_X10_times b0 (by decide) rfl rfl rfl (Nat.le_of_ble_eq_true rfl) (by decide) (by decide) (fun S' hS' => ?_)
  obtain ⟨V1, rfl, hE1, hG1⟩ := hS'
  rw [hux, hvy] at hG1
  refine z_aload_n F dX10_total_15 rfl ?_
  refine z_iconst (v := nI 2) F dX10_total_16 (by decide) ?_
  refine z_iload_n F dX10_total_17 rfl ?_
  refine z_imul F dX10_total_18 ?_
  refine z_ti (pk_mul 2 y) ?_
  refine z_iconst (v := nI 2) F dX10_total_19 (by decide) ?_
  refine z_iload_n F dX10_total_20 rfl ?_
  refine z_imul F dX10_total_21 ?_
  refine z_ti (pk_mul 2 x) ?_
  refine z_iconst (v := nI 1) F dX10_total_22 (by decide) ?_
  refine z_iadd F dX10_total_23 ?_
  refine z_ti (nI_add _ 1) ?_
  refine z_sipush (v := nI 225) F dX10_total_24 (by decide) ?_
  refine z_cVv F (m_times (s := 2 * y) (t := 2 * x + 1) (c := 225) hR hG1 (by omega) (by omega) (by decide) (by omega) (by omega) (by rw [up_ne _ _ (by omega), up_ne _ _ (by omega), huy, hvx]; exact lt16 m2)) dX10_total_27 ml_X10_102 ok_X10_times b0 (by decide) rfl rfl rfl (Nat.le_of_ble_eq_true rfl) (by decide) (by decide) (fun S' hS' => ?_)
  obtain ⟨V2, rfl, hE2, hG2⟩ := hS'
  rw [up_ne (j := 2 * y) _ _ (by omega), up_ne (j := 2 * x + 1) _ _ (by omega), huy, hvx] at hG2
  refine z_aload_n F dX10_total_30 rfl ?_
  refine z_iconst (v := nI 2) F dX10_total_31 (by decide) ?_
  refine z_iload_n F dX10_total_32 rfl ?_
  refine z_imul F dX10_total_33 ?_
  refine z_ti (pk_mul 2 x) ?_
  refine z_iconst (v := nI 1) F dX10_total_34 (by decide) ?_
  refine z_iadd F dX10_total_35 ?_
  refine z_ti (nI_add _ 1) ?_
  refine z_iconst (v := nI 2) F dX10_total_36 (by decide) ?_
  refine z_iload_n F dX10_total_37 rfl ?_
  refine z_imul F dX10_total_38 ?_
  refine z_ti (pk_mul 2 y) ?_
  refine z_iconst (v := nI 1) F dX10_total_39 (by decide) ?_
  refine z_iadd F dX10_total_40 ?_
  refine z_ti (nI_add _ 1) ?_
  refine z_sipush (v := nI 226) F dX10_total_41 (by decide) ?_
  refine z_cVv F (m_times (s := 2 * x + 1) (t := 2 * y + 1) (c := 226) hR hG2 (by omega) (by omega) (by decide) (by omega) (by omega) (by rw [up_ne _ _ (by omega), up_ne _ _ (by omega), up_ne _ _ (by omega), up_ne _ _ (by omega), hvx, hvy]; exact lt16 m3)) dX10_total_44 ml_X10_102 ok_X10_times b0 (by decide) rfl rfl rfl (Nat.le_of_ble_eq_true rfl) (by decide) (by decide) (fun S' hS' => ?_)
  obtain ⟨V3, rfl, hE3, hG3⟩ := hS'
  rw [up_ne (j := 2 * x + 1) _ _ (by omega), up_ne (j := 2 * x + 1) _ _ (by omega), up_ne (j := 2 * y + 1) _ _ (by omega), up_ne (j := 2 * y + 1) _ _ (by omega), hvx, hvy] at hG3
  have hE13 := (hE1.trans hE2).trans hE3
  obtain ⟨A, hA⟩ : ∃ A, A = (T x).2.1 * (T y).2.2 := ⟨_, rfl⟩
  obtain ⟨B, hB⟩ : ∃ B, B = (T y).2.1 * (T x).2.2 := ⟨_, rfl⟩
  obtain ⟨C, hC⟩ : ∃ C, C = (T x).2.2 * (T y).2.2 := ⟨_, rfl⟩
  rw [← hA, ← hB, ← hC] at hG3
  rw [← hA] at m1
  rw [← hB] at m2
  rw [← hC] at m3
  have C0 : C ≠ 0 := by rw [hC]; exact Nat.mul_ne_zero vx vy
  obtain ⟨o, ho⟩ : ∃ o, o = ((T y).1 != less) := ⟨_, rfl⟩
  obtain ⟨z, hz⟩ : ∃ z, z = fadd (T x) (T y) less := ⟨_, rfl⟩
  have hzf : z = if (T x).1 = o then norm (T x).1 (A + B) C else if B ≤ A then norm (T x).1 (A - B) C else norm o (B - A) C := by rw [hz, hA, hB, hC, ho]; rfl
  rw [← hz]
  generalize hQ : zQ Γ κ (pZ (mW Z V a T c z)) 0 0 = Q
  have tb : ∀ (V4 : Hv) (f : Nat), eW (a 1) V V4 → f < 112 → vA V4 (a 2) (nI f).toNatClampNeg = zb (T f).1 := fun V4 f h1 h2 => by rw [h1.2.1 _ n21]; exact hL.rb h2
  have fin : ∀ (V5 : Hv) (L5 : Nat → Nat) (s : Bool), eW (a 1) V V5 → mG (vA V5 (a 1)) L5 → (∀ k, k < 224 → L5 k = L k) → L5 226 = C → norm s (L5 224) C = z → zX Γ κ (Z, V5) 0 0 Q 146 [some (.ref (a 0)), some (.int (nI x)), some (.int (nI y)), some (.int (nI c)), some (.int (zb less)), some (.int (zb o)), some (.int (zb s))] [] := by
    intro V5 L5 s hE5 hG5 hk5 h226 hn
    refine z_aload_n F dX10_total_146 rfl ?_
    refine z_sipush (v := nI 224) F dX10_total_147 (by decide) ?_
    refine z_iconst (v := nI 2) F dX10_total_150 (by decide) ?_
    refine z_iload_n F dX10_total_151 rfl ?_
    refine z_imul F dX10_total_152 ?_
    refine z_ti (pk_mul 2 c) ?_
    refine z_cVv F (m_carryOver (s := 224) (t := 2 * c) hR hG5 (by decide) (by omega)) dX10_total_153 ml_X10_82 ok_X10_carryOver b0 (by decide) rfl rfl rfl (Nat.le_of_ble_eq_true rfl) (by decide) (by decide) (fun S' hS' => ?_)
    obtain ⟨V6, rfl, hE6, hG6⟩ := hS'
    refine z_aload_n F dX10_total_156 rfl ?_
    refine z_sipush (v := nI 226) F dX10_total_157 (by decide) ?_
    refine z_iconst (v := nI 2) F dX10_total_160 (by decide) ?_
    refine z_iload_n F dX10_total_161 rfl ?_
    refine z_imul F dX10_total_162 ?_
    refine z_ti (pk_mul 2 c) ?_
    refine z_iconst (v := nI 1) F dX10_total_163 (by decide) ?_
    refine z_iadd F dX10_total_164 ?_
    refine z_ti (nI_add _ 1) ?_
    refine z_cVv F (m_carryOver (s := 226) (t := 2 * c + 1) hR hG6 (by decide) (by omega)) dX10_total_165 ml_X10_82 ok_X10_carryOver b0 (by decide) rfl rfl rfl (Nat.le_of_ble_eq_true rfl) (by decide) (by decide) (fun S' hS' => ?_)
    obtain ⟨V7, rfl, hE7, hG7⟩ := hS'
    rw [up_ne (j := 226) _ _ (by omega), h226] at hG7
    have hE57 := (hE5.trans hE6).trans hE7
    refine z_aload_n F dX10_total_168 rfl ?_
    refine z_getR F dX10_total_169 gr_X10_13 (by assumption) (by assumption) ?_
    refine z_iload_n F dX10_total_172 rfl ?_
    refine z_iload F dX10_total_173 rfl ?_
    refine z_zast F dX10_total_175 (by assumption) (by assumption) (zb01 _) ?_
    refine z_aload_n F dX10_total_176 rfl ?_
    refine z_iload_n F dX10_total_177 rfl ?_
    have hL8 : mL a (sA V7 (a 2) (upd (vA V7 (a 2)) (nI c).toNatClampNeg (zb s))) (va_up T c (s, L5 224, C)) (va_up (va_up L5 (2 * c) (L5 224)) (2 * c + 1) C) := by
      refine hL.put hc (by rw [vA_sA_ne _ _ (Ne.symm n21)]; exact hG7) ?_ ?_ ?_ ?_ ?_
      · intro k hk h1 h2
        rw [up_ne _ _ h2, up_ne _ _ h1, hk5 k hk]
      · rw [up_ne _ _ (by omega), up_self]
      · rw [up_self]
      · intro i hi
        rw [vA_sA_self, nI_clamp (by omega), pk_un hi, hE57.2.1 _ n21]
      · rw [vA_sA_self, nI_clamp (by omega), pk_us]
    refine z_cVz F (m_lowest (f := c) hR hL8 hc (by rw [up_self]; exact C0) (by rw [up_self]; exact m3)) dX10_total_178 ml_X10_109 ok_X10_lowest b0 (by decide) rfl rfl rfl (Nat.le_of_ble_eq_true rfl) (by decide) (by decide) (fun r S' hr => ?_)
    rw [up_self] at hr
    obtain ⟨hr1, hr2⟩ := hr
    have hn' : norm (s, L5 224, C).1 (s, L5 224, C).2.1 (s, L5 224, C).2.2 = z := hn
    rw [hn'] at hr1 hr2
    rw [bx_uu] at hr2
    subst hQ
    exact z_zret F _ dX10_total_181 rfl rfl ⟨hr1, mU.after (hE57.m.trans (e2A.sB _ _)) hr2⟩
  have k3 : ∀ k, k < 224 → va_up (va_up (va_up L 224 A) 225 B) 226 C k = L k := fun k hk => by rw [up_ne _ _ (by omega), up_ne _ _ (by omega), up_ne _ _ (by omega)]
  have z224 : va_up (va_up (va_up L 224 A) 225 B) 226 C 224 = A := by rw [up_ne _ _ (by omega), up_ne _ _ (by omega), up_self]
  have z225 : va_up (va_up (va_up L 224 A) 225 B) 226 C 225 = B := by rw [up_ne _ _ (by omega), up_self]
  have z226 : va_up (va_up (va_up L 224 A) 225 B) 226 C 226 = C := up_self _ _ _
  generalize va_up (va_up (va_up L 224 A) 225 B) 226 C = L3 at *
  have mid : zX Γ κ (Z, V3) 0 0 Q 63 [some (.ref (a 0)), some (.int (nI x)), some (.int (nI y)), some (.int (nI c)), some (.int (zb less)), none, none] [.int (zb o)] := by
    refine z_istore_5 F dX10_total_63 rfl ?_
    refine z_aload_n F dX10_total_65 rfl ?_
    refine z_getR F dX10_total_66 gr_X10_13 (by assumption) (by assumption) ?_
    refine z_iload_n F dX10_total_69 rfl ?_
    refine z_zald F dX10_total_70 (by assumption) (by assumption) ?_
    refine z_ti (tb V3 x hE13 hx) ?_
    refine z_istore_6 F dX10_total_71 rfl ?_
    refine z_iload F dX10_total_73 rfl ?_
    refine z_iload F dX10_total_75 rfl ?_
    refine z_icmp_ne (tgt := 96) F dX10_total_77 (by decide) (fun c1 => ?_) (fun c1 => ?_)
    · have hne : ¬ (T x).1 = o := fun e => c1 ((zb_cmp _ _).mpr e)
      rw [if_neg hne] at hzf
      refine z_aload_n F dX10_total_96 rfl ?_
      refine z_sipush (v := nI 224) F dX10_total_97 (by decide) ?_
      refine z_sipush (v := nI 225) F dX10_total_100 (by decide) ?_
      refine z_cVi F (m_orderOf (s := 224) (t := 225) hR hG3 (by decide) (by decide)) dX10_total_103 ml_X10_76 ok_X10_orderOf b0 (by decide) rfl rfl rfl (Nat.le_of_ble_eq_true rfl) (by decide) (by decide) (fun r S' hr => ?_)
      obtain ⟨rfl, rfl⟩ := hr
      rw [z224, z225]
      refine z_if_lt (tgt := 122) F dX10_total_106 (by decide) (fun c2 => ?_) (fun c2 => ?_)
      · have h : ¬ B ≤ A := fun h => by
          unfold cmpI at c2
          rw [if_neg (by omega)] at c2
          split at c2
          · exact absurd c2 (by decide)
          · exact absurd c2 (by decide)
        rw [if_neg h] at hzf
        refine z_aload_n F dX10_total_122 rfl ?_
        refine z_sipush (v := nI 225) F dX10_total_123 (by decide) ?_
        refine z_sipush (v := nI 224) F dX10_total_126 (by decide) ?_
        refine z_cVv F (m_minus (s := 225) (t := 224) hR hG3 (by decide) (by decide) (by decide) (by rw [z224, z225]; omega)) dX10_total_129 ml_X10_79 ok_X10_minus b0 (by decide) rfl rfl rfl (Nat.le_of_ble_eq_true rfl) (by decide) (by decide) (fun S' hS' => ?_)
        obtain ⟨V4, rfl, hE4, hG4⟩ := hS'
        refine z_aload_n F dX10_total_132 rfl ?_
        refine z_sipush (v := nI 225) F dX10_total_133 (by decide) ?_
        refine z_sipush (v := nI 224) F dX10_total_136 (by decide) ?_
        refine z_cVv F (m_carryOver (s := 225) (t := 224) hR hG4 (by decide) (by decide)) dX10_total_139 ml_X10_82 ok_X10_carryOver b0 (by decide) rfl rfl rfl (Nat.le_of_ble_eq_true rfl) (by decide) (by decide) (fun S' hS' => ?_)
        obtain ⟨V5, rfl, hE5, hG5⟩ := hS'
        refine z_iload F dX10_total_142 rfl ?_
        refine z_istore_6 F dX10_total_144 rfl ?_
        refine fin V5 _ o ((hE13.trans hE4).trans hE5) hG5 (fun k hk => by rw [up_ne _ _ (by omega), up_ne _ _ (by omega), k3 k hk]) (by rw [up_ne _ _ (by omega), up_ne _ _ (by omega), z226]) ?_
        rw [up_self, up_self, z224, z225, hzf]
      · have h : B ≤ A := Nat.le_of_not_lt (fun h => c2 (by unfold cmpI; rw [if_pos h]; decide))
        rw [if_pos h] at hzf
        refine z_aload_n F dX10_total_109 rfl ?_
        refine z_sipush (v := nI 224) F dX10_total_110 (by decide) ?_
        refine z_sipush (v := nI 225) F dX10_total_113 (by decide) ?_
        refine z_cVv F (m_minus (s := 224) (t := 225) hR hG3 (by decide) (by decide) (by decide) (by rw [z224, z225]; exact h)) dX10_total_116 ml_X10_79 ok_X10_minus b0 (by decide) rfl rfl rfl (Nat.le_of_ble_eq_true rfl) (by decide) (by decide) (fun S' hS' => ?_)
        obtain ⟨V4, rfl, hE4, hG4⟩ := hS'
        refine z_goto (tgt := 146) F dX10_total_119 (by decide) ?_
        refine fin V4 _ (T x).1 (hE13.trans hE4) hG4 (fun k hk => by rw [up_ne _ _ (by omega), k3 k hk]) (by rw [up_ne _ _ (by omega), z226]) ?_
        rw [up_self, z224, z225, hzf]
    · have he : (T x).1 = o := (zb_cmp _ _).mp c1
      rw [if_pos he] at hzf
      refine z_aload_n F dX10_total_80 rfl ?_
      refine z_sipush (v := nI 224) F dX10_total_81 (by decide) ?_
      refine z_sipush (v := nI 225) F dX10_total_84 (by decide) ?_
      refine z_sipush (v := nI 224) F dX10_total_87 (by decide) ?_
      refine z_cVv F (m_plus (s := 224) (t := 225) (c := 224) hR hG3 (by decide) (by decide) (by decide) (by rw [z224, z225]; exact lt16a m1 m2)) dX10_total_90 ml_X10_106 ok_X10_plus b0 (by decide) rfl rfl rfl (Nat.le_of_ble_eq_true rfl) (by decide) (by decide) (fun S' hS' => ?_)
      obtain ⟨V4, rfl, hE4, hG4⟩ := hS'
      refine z_goto (tgt := 146) F dX10_total_93 (by decide) ?_
      refine fin V4 _ (T x).1 (hE13.trans hE4) hG4 (fun k hk => by rw [up_ne _ _ (by omega), k3 k hk]) (by rw [up_ne _ _ (by omega), z226]) ?_
      rw [up_self, z224, z225, hzf]
  refine z_aload_n F dX10_total_47 rfl ?_
  refine z_getR F dX10_total_48 gr_X10_13 (by assumption) (by assumption) ?_
  refine z_iload_n F dX10_total_51 rfl ?_
  refine z_zald F dX10_total_52 (by assumption) (by assumption) ?_
  refine z_ti (tb V3 y hE13 hy) ?_
  refine z_iload F dX10_total_53 rfl ?_
  refine z_icmp_eq (tgt := 62) F dX10_total_55 (by decide) (fun c0 => ?_) (fun c0 => ?_)
  · have e : o = false := by rw [ho, (zb_cmp _ _).mp c0]; cases less <;> rfl
    rw [e] at mid
    refine z_iconst (v := nI 0) F dX10_total_62 (by decide) ?_
    exact mid
  · have e : o = true := by
      have : ¬ (T y).1 = less := fun z => c0 ((zb_cmp _ _).mpr z)
      rw [ho]
      cases h1 : (T y).1 <;> cases less <;> simp_all
    rw [e] at mid
    refine z_iconst (v := nI 1) F dX10_total_58 (by decide) ?_
    refine z_goto (tgt := 63) F dX10_total_59 (by decide) ?_
    exact mid
set_option maxRecDepth 100000 in
set_option maxHeartbeats 1000000 in
theorem m_product (hR : mR Z a) (hL : mL a V T L) (hx : x < 112) (hy : y < 112) (hc : c < 112) (wx : wide (T x)) (wy : wide (T y)) (vx : (T x).2.2 ≠ 0) (vy : (T y).2.2 ≠ 0) : zCt Γ mX10_product 4 99 0 0 [.ref (a 0), .int (nI x), .int (nI y), .int (nI c)] (Z, V) (pZ (mW Z V a T c (fmul (T x) (T y) false))) := by
  refine zCt.of [some (.ref (a 0)), some (.int (nI x)), some (.int (nI y)), some (.int (nI c)), none] pn_X10_product rfl (Nat.le_of_ble_eq_true rfl) rfl (fun κ F => ?_)
  obtain ⟨b0, b1, b2, -⟩ := hR.1
  obtain ⟨d1, d2, d3, d4⟩ := hR.2.1
  have n21 := hR.n21
  have inx := hR.inb hx
  have iny := hR.inb hy
  have inc := hR.inb hc
  obtain ⟨hux, hvx, hbx⟩ := hL.2 x hx
  obtain ⟨huy, hvy, hby⟩ := hL.2 y hy
  have m1 := mul_lt12 wx.1 wy.1
  have m2 := mul_lt12 wx.2 wy.2
  refine z_aload_n F dX10_product_0 rfl ?_
  refine z_iconst (v := nI 2) F dX10_product_1 (by decide) ?_
  refine z_iload_n F dX10_product_2 rfl ?_
  refine z_imul F dX10_product_3 ?_
  refine z_ti (pk_mul 2 x) ?_
  refine z_iconst (v := nI 2) F dX10_product_4 (by decide) ?_
  refine z_iload_n F dX10_product_5 rfl ?_
  refine z_imul F dX10_product_6 ?_
  refine z_ti (pk_mul 2 y) ?_
  refine z_sipush (v := nI 224) F dX10_product_7 (by decide) ?_
  refine z_cVv F (m_times (s := 2 * x) (t := 2 * y) (c := 224) hR hL.1 (by omega) (by omega) (by decide) (by omega) (by omega) (by rw [hux, huy]; exact lt16 m1)) dX10_product_10 ml_X10_102 ok_X10_times b0 (by decide) rfl rfl rfl (Nat.le_of_ble_eq_true rfl) (by decide) (by decide) (fun S' hS' => ?_)
  obtain ⟨V1, rfl, hE1, hG1⟩ := hS'
  rw [hux, huy] at hG1
  refine z_aload_n F dX10_product_13 rfl ?_
  refine z_iconst (v := nI 2) F dX10_product_14 (by decide) ?_
  refine z_iload_n F dX10_product_15 rfl ?_
  refine z_imul F dX10_product_16 ?_
  refine z_ti (pk_mul 2 x) ?_
  refine z_iconst (v := nI 1) F dX10_product_17 (by decide) ?_
  refine z_iadd F dX10_product_18 ?_
  refine z_ti (nI_add _ 1) ?_
  refine z_iconst (v := nI 2) F dX10_product_19 (by decide) ?_
  refine z_iload_n F dX10_product_20 rfl ?_
  refine z_imul F dX10_product_21 ?_
  refine z_ti (pk_mul 2 y) ?_
  refine z_iconst (v := nI 1) F dX10_product_22 (by decide) ?_
  refine z_iadd F dX10_product_23 ?_
  refine z_ti (nI_add _ 1) ?_
  refine z_sipush (v := nI 225) F dX10_product_24 (by decide) ?_
  refine z_cVv F (m_times (s := 2 * x + 1) (t := 2 * y + 1) (c := 225) hR hG1 (by omega) (by omega) (by decide) (by omega) (by omega) (by rw [up_ne _ _ (by omega), up_ne _ _ (by omega), hvx, hvy]; exact lt16 m2)) dX10_product_27 ml_X10_102 ok_X10_times b0 (by decide) rfl rfl rfl (Nat.le_of_ble_eq_true rfl) (by decide) (by decide) (fun S' hS' => ?_)
  obtain ⟨V2, rfl, hE2, hG2⟩ := hS'
  rw [up_ne (j := 2 * x + 1) _ _ (by omega), up_ne (j := 2 * y + 1) _ _ (by omega), hvx, hvy] at hG2
  have hE12 := hE1.trans hE2
  obtain ⟨A, hA⟩ : ∃ A, A = (T x).2.1 * (T y).2.1 := ⟨_, rfl⟩
  obtain ⟨C, hC⟩ : ∃ C, C = (T x).2.2 * (T y).2.2 := ⟨_, rfl⟩
  rw [← hA, ← hC] at hG2
  rw [← hA] at m1
  rw [← hC] at m2
  have C0 : C ≠ 0 := by rw [hC]; exact Nat.mul_ne_zero vx vy
  obtain ⟨o, ho⟩ : ∃ o, o = ((T x).1 != (T y).1) := ⟨_, rfl⟩
  obtain ⟨z, hz⟩ : ∃ z, z = fmul (T x) (T y) false := ⟨_, rfl⟩
  have hzf : z = norm o A C := by rw [hz, hA, hC, ho]; rfl
  rw [← hz]
  generalize hQ : zQ Γ κ (pZ (mW Z V a T c z)) 0 0 = Q
  have tb : ∀ (f : Nat), f < 112 → vA V2 (a 2) (nI f).toNatClampNeg = zb (T f).1 := fun f h2 => by rw [hE12.2.1 _ n21]; exact hL.rb h2
  have z224 : va_up (va_up L 224 A) 225 C 224 = A := by rw [up_ne _ _ (by omega), up_self]
  have mid : zX Γ κ (Z, V2) 0 0 Q 50 [some (.ref (a 0)), some (.int (nI x)), some (.int (nI y)), some (.int (nI c)), none] [.int (zb o)] := by
    refine z_istore_4 F dX10_product_50 rfl ?_
    refine z_aload_n F dX10_product_52 rfl ?_
    refine z_sipush (v := nI 224) F dX10_product_53 (by decide) ?_
    refine z_iconst (v := nI 2) F dX10_product_56 (by decide) ?_
    refine z_iload_n F dX10_product_57 rfl ?_
    refine z_imul F dX10_product_58 ?_
    refine z_ti (pk_mul 2 c) ?_
    refine z_cVv F (m_carryOver (s := 224) (t := 2 * c) hR hG2 (by decide) (by omega)) dX10_product_59 ml_X10_82 ok_X10_carryOver b0 (by decide) rfl rfl rfl (Nat.le_of_ble_eq_true rfl) (by decide) (by decide) (fun S' hS' => ?_)
    obtain ⟨V6, rfl, hE6, hG6⟩ := hS'
    rw [z224] at hG6
    refine z_aload_n F dX10_product_62 rfl ?_
    refine z_sipush (v := nI 225) F dX10_product_63 (by decide) ?_
    refine z_iconst (v := nI 2) F dX10_product_66 (by decide) ?_
    refine z_iload_n F dX10_product_67 rfl ?_
    refine z_imul F dX10_product_68 ?_
    refine z_ti (pk_mul 2 c) ?_
    refine z_iconst (v := nI 1) F dX10_product_69 (by decide) ?_
    refine z_iadd F dX10_product_70 ?_
    refine z_ti (nI_add _ 1) ?_
    refine z_cVv F (m_carryOver (s := 225) (t := 2 * c + 1) hR hG6 (by decide) (by omega)) dX10_product_71 ml_X10_82 ok_X10_carryOver b0 (by decide) rfl rfl rfl (Nat.le_of_ble_eq_true rfl) (by decide) (by decide) (fun S' hS' => ?_)
    obtain ⟨V7, rfl, hE7, hG7⟩ := hS'
    rw [up_ne (j := 225) _ _ (by omega), up_self] at hG7
    have hE57 := (hE12.trans hE6).trans hE7
    refine z_aload_n F dX10_product_74 rfl ?_
    refine z_getR F dX10_product_75 gr_X10_13 (by assumption) (by assumption) ?_
    refine z_iload_n F dX10_product_78 rfl ?_
    refine z_iload F dX10_product_79 rfl ?_
    refine z_zast F dX10_product_81 (by assumption) (by assumption) (zb01 _) ?_
    refine z_aload_n F dX10_product_82 rfl ?_
    refine z_iload_n F dX10_product_83 rfl ?_
    have hL8 : mL a (sA V7 (a 2) (upd (vA V7 (a 2)) (nI c).toNatClampNeg (zb o))) (va_up T c (o, A, C)) (va_up (va_up (va_up (va_up L 224 A) 225 C) (2 * c) A) (2 * c + 1) C) := by
      refine hL.put hc (by rw [vA_sA_ne _ _ (Ne.symm n21)]; exact hG7) ?_ ?_ ?_ ?_ ?_
      · intro k hk h1 h2
        rw [up_ne _ _ h2, up_ne _ _ h1, up_ne _ _ (by omega), up_ne _ _ (by omega)]
      · rw [up_ne _ _ (by omega), up_self]
      · rw [up_self]
      · intro i hi
        rw [vA_sA_self, nI_clamp (by omega), pk_un hi, hE57.2.1 _ n21]
      · rw [vA_sA_self, nI_clamp (by omega), pk_us]
    refine z_cVz F (m_lowest (f := c) hR hL8 hc (by rw [up_self]; exact C0) (by rw [up_self]; exact m2)) dX10_product_84 ml_X10_109 ok_X10_lowest b0 (by decide) rfl rfl rfl (Nat.le_of_ble_eq_true rfl) (by decide) (by decide) (fun r S' hr => ?_)
    rw [up_self] at hr
    obtain ⟨hr1, hr2⟩ := hr
    have hn' : norm (o, A, C).1 (o, A, C).2.1 (o, A, C).2.2 = z := hzf.symm
    rw [hn'] at hr1 hr2
    rw [bx_uu] at hr2
    subst hQ
    exact z_zret F _ dX10_product_87 rfl rfl ⟨hr1, mU.after (hE57.m.trans (e2A.sB _ _)) hr2⟩
  refine z_aload_n F dX10_product_30 rfl ?_
  refine z_getR F dX10_product_31 gr_X10_13 (by assumption) (by assumption) ?_
  refine z_iload_n F dX10_product_34 rfl ?_
  refine z_zald F dX10_product_35 (by assumption) (by assumption) ?_
  refine z_ti (tb x hx) ?_
  refine z_aload_n F dX10_product_36 rfl ?_
  refine z_getR F dX10_product_37 gr_X10_13 (by assumption) (by assumption) ?_
  refine z_iload_n F dX10_product_40 rfl ?_
  refine z_zald F dX10_product_41 (by assumption) (by assumption) ?_
  refine z_ti (tb y hy) ?_
  refine z_icmp_eq (tgt := 49) F dX10_product_42 (by decide) (fun c0 => ?_) (fun c0 => ?_)
  · have e : o = false := by rw [ho, (zb_cmp _ _).mp c0]; cases (T y).1 <;> rfl
    rw [e] at mid
    refine z_iconst (v := nI 0) F dX10_product_49 (by decide) ?_
    exact mid
  · have e : o = true := by
      have : ¬ (T x).1 = (T y).1 := fun z => c0 ((zb_cmp _ _).mpr z)
      rw [ho]
      cases h1 : (T x).1 <;> cases h2 : (T y).1 <;> simp_all
    rw [e] at mid
    refine z_iconst (v := nI 1) F dX10_product_45 (by decide) ?_
    refine z_goto (tgt := 50) F dX10_product_46 (by decide) ?_
    exact mid
set_option maxRecDepth 100000 in
set_option maxHeartbeats 1000000 in
theorem m_ratio (hR : mR Z a) (hL : mL a V T L) (hx : x < 112) (hy : y < 112) (hc : c < 112) (wx : wide (T x)) (wy : wide (T y)) (vx : (T x).2.2 ≠ 0) (vy : (T y).2.1 ≠ 0) : zCt Γ mX10_ratio 4 99 0 0 [.ref (a 0), .int (nI x), .int (nI y), .int (nI c)] (Z, V) (pZ (mW Z V a T c (fmul (T x) (T y) true))) := by
  refine zCt.of [some (.ref (a 0)), some (.int (nI x)), some (.int (nI y)), some (.int (nI c)), none] pn_X10_ratio rfl (Nat.le_of_ble_eq_true rfl) rfl (fun κ F => ?_)
  obtain ⟨b0, b1, b2, -⟩ := hR.1
  obtain ⟨d1, d2, d3, d4⟩ := hR.2.1
  have n21 := hR.n21
  have inx := hR.inb hx
  have iny := hR.inb hy
  have inc := hR.inb hc
  obtain ⟨hux, hvx, hbx⟩ := hL.2 x hx
  obtain ⟨huy, hvy, hby⟩ := hL.2 y hy
  have m1 := mul_lt12 wx.1 wy.2
  have m2 := mul_lt12 wx.2 wy.1
  refine z_aload_n F dX10_ratio_0 rfl ?_
  refine z_iconst (v := nI 2) F dX10_ratio_1 (by decide) ?_
  refine z_iload_n F dX10_ratio_2 rfl ?_
  refine z_imul F dX10_ratio_3 ?_
  refine z_ti (pk_mul 2 x) ?_
  refine z_iconst (v := nI 2) F dX10_ratio_4 (by decide) ?_
  refine z_iload_n F dX10_ratio_5 rfl ?_
  refine z_imul F dX10_ratio_6 ?_
  refine z_ti (pk_mul 2 y) ?_
  refine z_iconst (v := nI 1) F dX10_ratio_7 (by decide) ?_
  refine z_iadd F dX10_ratio_8 ?_
  refine z_ti (nI_add _ 1) ?_
  refine z_sipush (v := nI 224) F dX10_ratio_9 (by decide) ?_
  refine z_cVv F (m_times (s := 2 * x) (t := 2 * y + 1) (c := 224) hR hL.1 (by omega) (by omega) (by decide) (by omega) (by omega) (by rw [hux, hvy]; exact lt16 m1)) dX10_ratio_12 ml_X10_102 ok_X10_times b0 (by decide) rfl rfl rfl (Nat.le_of_ble_eq_true rfl) (by decide) (by decide) (fun S' hS' => ?_)
  obtain ⟨V1, rfl, hE1, hG1⟩ := hS'
  rw [hux, hvy] at hG1
  refine z_aload_n F dX10_ratio_15 rfl ?_
  refine z_iconst (v := nI 2) F dX10_ratio_16 (by decide) ?_
  refine z_iload_n F dX10_ratio_17 rfl ?_
  refine z_imul F dX10_ratio_18 ?_
  refine z_ti (pk_mul 2 x) ?_
  refine z_iconst (v := nI 1) F dX10_ratio_19 (by decide) ?_
  refine z_iadd F dX10_ratio_20 ?_
  refine z_ti (nI_add _ 1) ?_
  refine z_iconst (v := nI 2) F dX10_ratio_21 (by decide) ?_
  refine z_iload_n F dX10_ratio_22 rfl ?_
  refine z_imul F dX10_ratio_23 ?_
  refine z_ti (pk_mul 2 y) ?_
  refine z_sipush (v := nI 225) F dX10_ratio_24 (by decide) ?_
  refine z_cVv F (m_times (s := 2 * x + 1) (t := 2 * y) (c := 225) hR hG1 (by omega) (by omega) (by decide) (by omega) (by omega) (by rw [up_ne _ _ (by omega), up_ne _ _ (by omega), hvx, huy]; exact lt16 m2)) dX10_ratio_27 ml_X10_102 ok_X10_times b0 (by decide) rfl rfl rfl (Nat.le_of_ble_eq_true rfl) (by decide) (by decide) (fun S' hS' => ?_)
  obtain ⟨V2, rfl, hE2, hG2⟩ := hS'
  rw [up_ne (j := 2 * x + 1) _ _ (by omega), up_ne (j := 2 * y) _ _ (by omega), hvx, huy] at hG2
  have hE12 := hE1.trans hE2
  obtain ⟨A, hA⟩ : ∃ A, A = (T x).2.1 * (T y).2.2 := ⟨_, rfl⟩
  obtain ⟨C, hC⟩ : ∃ C, C = (T x).2.2 * (T y).2.1 := ⟨_, rfl⟩
  rw [← hA, ← hC] at hG2
  rw [← hA] at m1
  rw [← hC] at m2
  have C0 : C ≠ 0 := by rw [hC]; exact Nat.mul_ne_zero vx vy
  obtain ⟨o, ho⟩ : ∃ o, o = ((T x).1 != (T y).1) := ⟨_, rfl⟩
  obtain ⟨z, hz⟩ : ∃ z, z = fmul (T x) (T y) true := ⟨_, rfl⟩
  have hzf : z = norm o A C := by rw [hz, hA, hC, ho]; rfl
  rw [← hz]
  generalize hQ : zQ Γ κ (pZ (mW Z V a T c z)) 0 0 = Q
  have tb : ∀ (f : Nat), f < 112 → vA V2 (a 2) (nI f).toNatClampNeg = zb (T f).1 := fun f h2 => by rw [hE12.2.1 _ n21]; exact hL.rb h2
  have z224 : va_up (va_up L 224 A) 225 C 224 = A := by rw [up_ne _ _ (by omega), up_self]
  have mid : zX Γ κ (Z, V2) 0 0 Q 50 [some (.ref (a 0)), some (.int (nI x)), some (.int (nI y)), some (.int (nI c)), none] [.int (zb o)] := by
    refine z_istore_4 F dX10_ratio_50 rfl ?_
    refine z_aload_n F dX10_ratio_52 rfl ?_
    refine z_sipush (v := nI 224) F dX10_ratio_53 (by decide) ?_
    refine z_iconst (v := nI 2) F dX10_ratio_56 (by decide) ?_
    refine z_iload_n F dX10_ratio_57 rfl ?_
    refine z_imul F dX10_ratio_58 ?_
    refine z_ti (pk_mul 2 c) ?_
    refine z_cVv F (m_carryOver (s := 224) (t := 2 * c) hR hG2 (by decide) (by omega)) dX10_ratio_59 ml_X10_82 ok_X10_carryOver b0 (by decide) rfl rfl rfl (Nat.le_of_ble_eq_true rfl) (by decide) (by decide) (fun S' hS' => ?_)
    obtain ⟨V6, rfl, hE6, hG6⟩ := hS'
    rw [z224] at hG6
    refine z_aload_n F dX10_ratio_62 rfl ?_
    refine z_sipush (v := nI 225) F dX10_ratio_63 (by decide) ?_
    refine z_iconst (v := nI 2) F dX10_ratio_66 (by decide) ?_
    refine z_iload_n F dX10_ratio_67 rfl ?_
    refine z_imul F dX10_ratio_68 ?_
    refine z_ti (pk_mul 2 c) ?_
    refine z_iconst (v := nI 1) F dX10_ratio_69 (by decide) ?_
    refine z_iadd F dX10_ratio_70 ?_
    refine z_ti (nI_add _ 1) ?_
    refine z_cVv F (m_carryOver (s := 225) (t := 2 * c + 1) hR hG6 (by decide) (by omega)) dX10_ratio_71 ml_X10_82 ok_X10_carryOver b0 (by decide) rfl rfl rfl (Nat.le_of_ble_eq_true rfl) (by decide) (by decide) (fun S' hS' => ?_)
    obtain ⟨V7, rfl, hE7, hG7⟩ := hS'
    rw [up_ne (j := 225) _ _ (by omega), up_self] at hG7
    have hE57 := (hE12.trans hE6).trans hE7
    refine z_aload_n F dX10_ratio_74 rfl ?_
    refine z_getR F dX10_ratio_75 gr_X10_13 (by assumption) (by assumption) ?_
    refine z_iload_n F dX10_ratio_78 rfl ?_
    refine z_iload F dX10_ratio_79 rfl ?_
    refine z_zast F dX10_ratio_81 (by assumption) (by assumption) (zb01 _) ?_
    refine z_aload_n F dX10_ratio_82 rfl ?_
    refine z_iload_n F dX10_ratio_83 rfl ?_
    have hL8 : mL a (sA V7 (a 2) (upd (vA V7 (a 2)) (nI c).toNatClampNeg (zb o))) (va_up T c (o, A, C)) (va_up (va_up (va_up (va_up L 224 A) 225 C) (2 * c) A) (2 * c + 1) C) := by
      refine hL.put hc (by rw [vA_sA_ne _ _ (Ne.symm n21)]; exact hG7) ?_ ?_ ?_ ?_ ?_
      · intro k hk h1 h2
        rw [up_ne _ _ h2, up_ne _ _ h1, up_ne _ _ (by omega), up_ne _ _ (by omega)]
      · rw [up_ne _ _ (by omega), up_self]
      · rw [up_self]
      · intro i hi
        rw [vA_sA_self, nI_clamp (by omega), pk_un hi, hE57.2.1 _ n21]
      · rw [vA_sA_self, nI_clamp (by omega), pk_us]
    refine z_cVz F (m_lowest (f := c) hR hL8 hc (by rw [up_self]; exact C0) (by rw [up_self]; exact m2)) dX10_ratio_84 ml_X10_109 ok_X10_lowest b0 (by decide) rfl rfl rfl (Nat.le_of_ble_eq_true rfl) (by decide) (by decide) (fun r S' hr => ?_)
    rw [up_self] at hr
    obtain ⟨hr1, hr2⟩ := hr
    have hn' : norm (o, A, C).1 (o, A, C).2.1 (o, A, C).2.2 = z := hzf.symm
    rw [hn'] at hr1 hr2
    rw [bx_uu] at hr2
    subst hQ
    exact z_zret F _ dX10_ratio_87 rfl rfl ⟨hr1, mU.after (hE57.m.trans (e2A.sB _ _)) hr2⟩
  refine z_aload_n F dX10_ratio_30 rfl ?_
  refine z_getR F dX10_ratio_31 gr_X10_13 (by assumption) (by assumption) ?_
  refine z_iload_n F dX10_ratio_34 rfl ?_
  refine z_zald F dX10_ratio_35 (by assumption) (by assumption) ?_
  refine z_ti (tb x hx) ?_
  refine z_aload_n F dX10_ratio_36 rfl ?_
  refine z_getR F dX10_ratio_37 gr_X10_13 (by assumption) (by assumption) ?_
  refine z_iload_n F dX10_ratio_40 rfl ?_
  refine z_zald F dX10_ratio_41 (by assumption) (by assumption) ?_
  refine z_ti (tb y hy) ?_
  refine z_icmp_eq (tgt := 49) F dX10_ratio_42 (by decide) (fun c0 => ?_) (fun c0 => ?_)
  · have e : o = false := by rw [ho, (zb_cmp _ _).mp c0]; cases (T y).1 <;> rfl
    rw [e] at mid
    refine z_iconst (v := nI 0) F dX10_ratio_49 (by decide) ?_
    exact mid
  · have e : o = true := by
      have : ¬ (T x).1 = (T y).1 := fun z => c0 ((zb_cmp _ _).mpr z)
      rw [ho]
      cases h1 : (T x).1 <;> cases h2 : (T y).1 <;> simp_all
    rw [e] at mid
    refine z_iconst (v := nI 1) F dX10_ratio_45 (by decide) ?_
    refine z_goto (tgt := 50) F dX10_ratio_46 (by decide) ?_
    exact mid
theorem i64_ge (x : Int64) : 0 ≤ lg_cmp x (lN 0) ↔ ¬ x < 0 := by
  rw [lg_cmp_ge, Int64.le_iff_toInt_le, Int64.lt_iff_toInt_lt]
  have e0 : (lN 0).toInt = (0 : Int64).toInt := rfl
  omega
set_option maxRecDepth 100000 in
set_option maxHeartbeats 1000000 in
theorem m_setFraction (u v : Int64) (hR : mR Z a) (hL : mL a V T L) (hf : f < 112) (hv0 : ¬ v = 0) : zCt Γ mX10_setFraction 4 99 0 0 [.ref (a 0), .int (nI f), .long u, .long v] (Z, V) (pV (mU Z V a (va_up T f (fratio u v)))) := by
  refine zCt.of [some (.ref (a 0)), some (.int (nI f)), some (.long u), none, some (.long v), none, none] pn_X10_setFraction rfl (Nat.le_of_ble_eq_true rfl) rfl (fun κ F => ?_)
  obtain ⟨b0, b1, b2, -⟩ := hR.1
  obtain ⟨d1, d2, d3, d4⟩ := hR.2.1
  have n21 := hR.n21
  have inf := hR.inb hf
  refine z_aload_n F dX10_setFraction_0 rfl ?_
  refine z_iconst (v := nI 2) F dX10_setFraction_1 (by decide) ?_
  refine z_iload_n F dX10_setFraction_2 rfl ?_
  refine z_imul F dX10_setFraction_3 ?_
  refine z_ti (pk_mul 2 f) ?_
  refine z_lload_n F dX10_setFraction_4 rfl ?_
  refine z_cVv F (m_setLong (s := 2 * f) u hR hL.1 (by omega)) dX10_setFraction_5 ml_X10_112 ok_X10_setLong b0 (by decide) rfl rfl rfl (Nat.le_of_ble_eq_true rfl) (by decide) (by decide) (fun S' hS' => ?_)
  obtain ⟨V1, rfl, hE1, hG1⟩ := hS'
  refine z_aload_n F dX10_setFraction_8 rfl ?_
  refine z_iconst (v := nI 2) F dX10_setFraction_9 (by decide) ?_
  refine z_iload_n F dX10_setFraction_10 rfl ?_
  refine z_imul F dX10_setFraction_11 ?_
  refine z_ti (pk_mul 2 f) ?_
  refine z_iconst (v := nI 1) F dX10_setFraction_12 (by decide) ?_
  refine z_iadd F dX10_setFraction_13 ?_
  refine z_ti (nI_add _ 1) ?_
  refine z_lload F dX10_setFraction_14 rfl ?_
  refine z_cVv F (m_setLong (s := 2 * f + 1) v hR hG1 (by omega)) dX10_setFraction_16 ml_X10_112 ok_X10_setLong b0 (by decide) rfl rfl rfl (Nat.le_of_ble_eq_true rfl) (by decide) (by decide) (fun S' hS' => ?_)
  obtain ⟨V2, rfl, hE2, hG2⟩ := hS'
  have hE12 := hE1.trans hE2
  have hvn : v.toInt.natAbs ≠ 0 := fun e => hv0 (Int64.toInt_inj.mp (by rw [Int.natAbs_eq_zero.mp e]; rfl))
  have hvl : v.toInt.natAbs < 4294967296 ^ 12 := Nat.lt_of_le_of_lt (Nat.le_of_lt_succ (Nat.lt_succ_of_lt (abs64_lt v))) (by decide)
  generalize hQ : zQ Γ κ (pV (mU Z V a (va_up T f (fratio u v)))) 0 0 = Q
  obtain ⟨A, hA⟩ : ∃ A, A = u.toInt.natAbs := ⟨_, rfl⟩
  obtain ⟨C, hC⟩ : ∃ C, C = v.toInt.natAbs := ⟨_, rfl⟩
  rw [← hA, ← hC] at hG2
  rw [← hC] at hvn hvl
  have fin : ∀ o : Bool, o = (decide (u < 0) != decide (v < 0)) → zX Γ κ (Z, V2) 0 0 Q 55 [some (.ref (a 0)), some (.int (nI f)), some (.long u), none, some (.long v), none, none] [.int (zb o), .int (nI f), .ref (a 2)] := by
    intro o ho
    refine z_zast F dX10_setFraction_55 (by assumption) (by assumption) (zb01 _) ?_
    refine z_aload_n F dX10_setFraction_56 rfl ?_
    refine z_iload_n F dX10_setFraction_57 rfl ?_
    have hL8 : mL a (sA V2 (a 2) (upd (vA V2 (a 2)) (nI f).toNatClampNeg (zb o))) (va_up T f (o, A, C)) (va_up (va_up L (2 * f) A) (2 * f + 1) C) := by
      refine hL.put hf (by rw [vA_sA_ne _ _ (Ne.symm n21)]; exact hG2) ?_ ?_ ?_ ?_ ?_
      · intro k hk h1 h2
        rw [up_ne _ _ h2, up_ne _ _ h1]
      · rw [up_ne _ _ (by omega), up_self]
      · rw [up_self]
      · intro i hi
        rw [vA_sA_self, nI_clamp (by omega), pk_un hi, hE12.2.1 _ n21]
      · rw [vA_sA_self, nI_clamp (by omega), pk_us]
    refine z_cVz F (m_lowest (f := f) hR hL8 hf (by rw [up_self]; exact hvn) (by rw [up_self]; exact hvl)) dX10_setFraction_58 ml_X10_109 ok_X10_lowest b0 (by decide) rfl rfl rfl (Nat.le_of_ble_eq_true rfl) (by decide) (by decide) (fun r S' hr => ?_)
    rw [up_self] at hr
    obtain ⟨hr1, hr2⟩ := hr
    have hn' : norm (o, A, C).1 (o, A, C).2.1 (o, A, C).2.2 = fratio u v := by rw [hA, hC, ho]; rfl
    rw [hn', bx_uu] at hr2
    subst hQ
    refine z_istore_6 F dX10_setFraction_61 rfl ?_
    exact z_vret F dX10_setFraction_63 rfl (mU.after (hE12.m.trans (e2A.sB _ _)) hr2)
  have mid : ∀ b : Bool, b = decide (u < 0) → zX Γ κ (Z, V2) 0 0 Q 35 [some (.ref (a 0)), some (.int (nI f)), some (.long u), none, some (.long v), none, none] [.int (zb b), .int (nI f), .ref (a 2)] := by
    intro b hb
    have m2 : ∀ b2 : Bool, b2 = decide (v < 0) → zX Γ κ (Z, V2) 0 0 Q 47 [some (.ref (a 0)), some (.int (nI f)), some (.long u), none, some (.long v), none, none] [.int (zb b2), .int (zb b), .int (nI f), .ref (a 2)] := by
      intro b2 hb2
      refine z_icmp_eq (tgt := 54) F dX10_setFraction_47 (by decide) (fun c0 => ?_) (fun c0 => ?_)
      · have e : b = b2 := (zb_cmp _ _).mp c0
        refine z_iconst (v := nI 0) F dX10_setFraction_54 (by decide) ?_
        exact fin false (by rw [← hb, ← hb2, e]; cases b2 <;> rfl)
      · have e : ¬ b = b2 := fun z => c0 ((zb_cmp _ _).mpr z)
        refine z_iconst (v := nI 1) F dX10_setFraction_50 (by decide) ?_
        refine z_goto (tgt := 55) F dX10_setFraction_51 (by decide) ?_
        exact fin true (by rw [← hb, ← hb2]; revert e; cases b <;> cases b2 <;> decide)
    refine z_lload F dX10_setFraction_35 rfl ?_
    refine z_lconst (v := lN 0) F dX10_setFraction_37 (by decide) ?_
    refine z_lcmp F dX10_setFraction_38 ?_
    refine z_if_ge (tgt := 46) F dX10_setFraction_39 (by decide) (fun c0 => ?_) (fun c0 => ?_)
    · refine z_iconst (v := nI 0) F dX10_setFraction_46 (by decide) ?_
      exact m2 false (decide_eq_false ((i64_ge v).mp c0)).symm
    · refine z_iconst (v := nI 1) F dX10_setFraction_42 (by decide) ?_
      refine z_goto (tgt := 47) F dX10_setFraction_43 (by decide) ?_
      exact m2 true (decide_eq_true (Decidable.not_not.mp (fun z => c0 ((i64_ge v).mpr z)))).symm
  refine z_aload_n F dX10_setFraction_19 rfl ?_
  refine z_getR F dX10_setFraction_20 gr_X10_13 (by assumption) (by assumption) ?_
  refine z_iload_n F dX10_setFraction_23 rfl ?_
  refine z_lload_n F dX10_setFraction_24 rfl ?_
  refine z_lconst (v := lN 0) F dX10_setFraction_25 (by decide) ?_
  refine z_lcmp F dX10_setFraction_26 ?_
  refine z_if_ge (tgt := 34) F dX10_setFraction_27 (by decide) (fun c0 => ?_) (fun c0 => ?_)
  · refine z_iconst (v := nI 0) F dX10_setFraction_34 (by decide) ?_
    exact mid false (decide_eq_false ((i64_ge u).mp c0)).symm
  · refine z_iconst (v := nI 1) F dX10_setFraction_30 (by decide) ?_
    refine z_goto (tgt := 35) F dX10_setFraction_31 (by decide) ?_
    exact mid true (decide_eq_true (Decidable.not_not.mp (fun z => c0 ((i64_ge u).mpr z)))).symm
end MOD9
