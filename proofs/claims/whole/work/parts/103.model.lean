/-! ===== FractionRowsModel: times, twice, bitsOf ===== -/
/-- a step of a product's row: C the sum so far, i its place, xi the digit, y the other factor -/
theorem mul_dg {C xi y i j : Nat} : ∀ {ov v N : Nat}, ov = (C % 268435456 ^ (i + j) + xi * (y % 268435456 ^ j) * 268435456 ^ i) / 268435456 ^ (i + j) → v = dg C (i + j) + ov + xi * dg y j → N = C + xi * y * 268435456 ^ i → dg N (i + j) = v % 268435456 ∧ v / 268435456 = (C % 268435456 ^ (i + (j + 1)) + xi * (y % 268435456 ^ (j + 1)) * 268435456 ^ i) / 268435456 ^ (i + (j + 1)) := by
  intro ov v N hov hv hN
  have hs : (C % 268435456 ^ (i + j + 1) + xi * (y % 268435456 ^ (j + 1)) * 268435456 ^ i) / 268435456 ^ (i + j) = v := by
    have e1 : C % 268435456 ^ (i + j + 1) + xi * (y % 268435456 ^ (j + 1)) * 268435456 ^ i = (C % 268435456 ^ (i + j) + xi * (y % 268435456 ^ j) * 268435456 ^ i) + (dg C (i + j) + xi * dg y j) * 268435456 ^ (i + j) := by
      rw [dg_mod C (i + j), dg_mod y j, Nat.mul_add, Nat.add_mul, Nat.add_mul]
      have : xi * (dg y j * 268435456 ^ j) * 268435456 ^ i = xi * dg y j * 268435456 ^ (i + j) := by
        rw [Nat.pow_add, Nat.mul_comm (268435456 ^ i), ← Nat.mul_assoc, ← Nat.mul_assoc]
      rw [this]
      omega
    rw [e1, Nat.add_mul_div_right _ _ (dgp _), ← hov, hv]
    omega
  constructor
  · refine dg_of (y := C % 268435456 ^ (i + j + 1) + xi * (y % 268435456 ^ (j + 1)) * 268435456 ^ i) ?_ hs
    rw [hN]
    have e2 : xi * y * 268435456 ^ i = xi * (y % 268435456 ^ (j + 1)) * 268435456 ^ i + 268435456 ^ (i + j + 1) * (xi * (y / 268435456 ^ (j + 1))) := by
      conv => lhs; rw [← Nat.mod_add_div y (268435456 ^ (j + 1))]
      rw [Nat.mul_add, Nat.add_mul]
      congr 1
      have e9 : 268435456 ^ (i + j + 1) = 268435456 ^ (j + 1) * 268435456 ^ i := by rw [← Nat.pow_add]; congr 1; omega
      rw [e9]
      generalize 268435456 ^ (j + 1) = P
      generalize 268435456 ^ i = R
      generalize y / P = z
      rw [← Nat.mul_assoc xi P z, Nat.mul_comm xi P, Nat.mul_assoc P xi z, Nat.mul_assoc P (xi * z) R, Nat.mul_comm (xi * z) R, ← Nat.mul_assoc P R]
    rw [e2, ← Nat.add_assoc, Nat.add_mul_mod_self_left, Nat.mod_add_mod]
  · rw [← hs, show i + (j + 1) = i + j + 1 by omega, Nat.pow_succ, ← Nat.div_div_eq_div_mul, ← Nat.pow_succ]
theorem ixw3 (s i j : Nat) : nI 16 * nI s + nI i + nI j = nI (16 * s + (i + j)) := by rw [ixw, nI_add, Nat.add_assoc]
section MOD3
variable {Γ : Gm} {Z : Hz} {V : Hv} {a : Nat → Nat} {L : Nat → Nat} {s t c : Nat}
theorem tim_lt {xi ov C y : Nat} (h1 : xi < 268435456) (h2 : ov < 268435456) (h3 : C < 268435456) (h4 : y < 268435456) : C + ov + xi * y < 268435456 * 268435456 := by
  have : xi * y ≤ 268435455 * 268435455 := Nat.mul_le_mul (by omega) (by omega)
  omega
set_option maxRecDepth 100000 in
set_option maxHeartbeats 1000000 in
theorem m_times (hR : mR Z a) (hG : mG (vA V (a 1)) L) (hs : s < 240) (ht : t < 240) (hc : c < 240) (nsc : s ≠ c) (ntc : t ≠ c) (hb : L s * L t < 268435456 ^ 16) : zCt Γ mX10_times 1 22 0 0 [.ref (a 0), .int (nI s), .int (nI t), .int (nI c)] (Z, V) (pV (mP Z V (a 1) (va_up L c (L s * L t)))) := by
  refine zCt.of [some (.ref (a 0)), some (.int (nI s)), some (.int (nI t)), some (.int (nI c)), none, none, none, none, none, none, none, none, none, none] pn_X10_times rfl (Nat.le_of_ble_eq_true rfl) rfl (fun κ F => ?_)
  obtain ⟨b0, b1, -⟩ := hR.1
  obtain ⟨d1, d2, -⟩ := hR.2.1
  refine z_aload_n F dX10_times_0 rfl ?_
  refine z_iload_n F dX10_times_1 rfl ?_
  refine z_cVv F (m_wipe hR hG hc) dX10_times_2 ml_X10_55 ok_X10_wipe b0 (by decide) rfl rfl rfl (Nat.le_of_ble_eq_true rfl) (by decide) (by decide) (fun S' hS' => ?_)
  obtain ⟨V1, rfl, hE1, hG1⟩ := hS'
  refine z_aload_n F dX10_times_5 rfl ?_
  refine z_iload_n F dX10_times_6 rfl ?_
  refine z_cVi F (m_topOf hR hG1 hs) dX10_times_7 ml_X10_60 ok_X10_topOf b0 (by decide) rfl rfl rfl (Nat.le_of_ble_eq_true rfl) (by decide) (by decide) (fun r S' hr => ?_)
  obtain ⟨rfl, tp, rfl, htp, hx, -⟩ := hr
  refine z_istore_4 F dX10_times_10 rfl ?_
  refine z_aload_n F dX10_times_12 rfl ?_
  refine z_iload_n F dX10_times_13 rfl ?_
  refine z_cVi F (m_topOf hR hG1 ht) dX10_times_14 ml_X10_60 ok_X10_topOf b0 (by decide) rfl rfl rfl (Nat.le_of_ble_eq_true rfl) (by decide) (by decide) (fun r S' hr => ?_)
  obtain ⟨rfl, hi, rfl, hhi, hy, hyge⟩ := hr
  rw [up_ne _ _ nsc] at hx
  rw [up_ne _ _ ntc] at hy hyge
  generalize hQ : zQ Γ κ (pV (mP Z V (a 1) (va_up L c (L s * L t)))) 0 0 = Q
  generalize hx0 : L s = x at *
  generalize hy0 : L t = y at *
  have outer : ∀ (d i C : Nat) (g : Nat → Int32) (l7 l9 l11 l12 : Option Value), i + d = tp → C = x % 268435456 ^ i * y → mG g (va_up L c C) → zX Γ κ (Z, sA V1 (a 1) g) 0 0 Q 22 [some (.ref (a 0)), some (.int (nI s)), some (.int (nI t)), some (.int (nI c)), some (.int (nI tp)), some (.int (nI hi)), some (.int (nI i)), l7, none, l9, none, l11, l12, none] [] := by
    intro d
    induction d with
    | zero =>
      intro i C g l7 l9 l11 l12 hi9 hC hg
      have e : C = x * y := by rw [hC, Nat.mod_eq_of_lt (by rw [show i = tp by omega]; exact hx)]
      refine z_iload F dX10_times_22 rfl ?_
      refine z_iload F dX10_times_24 rfl ?_
      refine z_icmp_ge (tgt := 164) F dX10_times_26 (by decide) (fun c1 => ?_) (fun c1 => ?_)
      · subst hQ
        exact z_vret F dX10_times_164 rfl (mP.after hE1 (mP.of (by rw [← e]; exact hg)))
      · exact absurd (nI_le (by omega) (by omega)) c1
    | succ d ih =>
      intro i C g l7 l9 l11 l12 hi9 hC hg
      have hi16 : i < 16 := by omega
      have lx := dg_lt x i
      obtain ⟨xi, hxi⟩ : ∃ xi, xi = dg x i := ⟨_, rfl⟩
      rw [← hxi] at lx
      have rs : vA (sA V1 (a 1) g) (a 1) (nI (16 * s + i)).toNatClampNeg = nI xi := by rw [vA_sA_self, clw hs hi16, hg.1 s i hs hi16, up_ne _ _ nsc, hx0, hxi]
      obtain ⟨N, hN⟩ : ∃ N, N = C + xi * y * 268435456 ^ i := ⟨_, rfl⟩
      have hNe : N = x % 268435456 ^ (i + 1) * y := by
        rw [hN, hC, dg_mod x i, ← hxi, Nat.add_mul]
        congr 1
        rw [Nat.mul_assoc, Nat.mul_assoc, Nat.mul_comm y]
      have hNl : N < 268435456 ^ 16 := by
        rw [hNe]
        exact Nat.lt_of_le_of_lt (Nat.mul_le_mul_right y (Nat.mod_le _ _)) hb
      have hCl : C < 268435456 ^ 16 := by have := hg.2 c hc; rw [up_self] at this; exact this
      have inner : ∀ (e j ov : Nat) (g : Nat → Int32) (l12 : Option Value), i + j + e = 16 → ov = (C % 268435456 ^ (i + j) + xi * (y % 268435456 ^ j) * 268435456 ^ i) / 268435456 ^ (i + j) → ov < 268435456 → mQ g (va_up L c C) c (i + j) N → zX Γ κ (Z, sA V1 (a 1) g) 0 0 Q 50 [some (.ref (a 0)), some (.int (nI s)), some (.int (nI t)), some (.int (nI c)), some (.int (nI tp)), some (.int (nI hi)), some (.int (nI i)), some (.long (lN xi)), none, some (.long (lN ov)), none, some (.int (nI j)), l12, none] [] := by
        -- behind the row
        have next : ∀ (j ov : Nat) (g : Nat → Int32) (l12 : Option Value), mG g (va_up L c N) → j < 1000 → zX Γ κ (Z, sA V1 (a 1) g) 0 0 Q 158 [some (.ref (a 0)), some (.int (nI s)), some (.int (nI t)), some (.int (nI c)), some (.int (nI tp)), some (.int (nI hi)), some (.int (nI i)), some (.long (lN xi)), none, some (.long (lN ov)), none, some (.int (nI j)), l12, none] [] := by
          intro j ov g l12 hg2 _
          refine z_iinc_6 F dX10_times_158 rfl ?_
          refine z_goto (tgt := 22) F dX10_times_161 (by decide) ?_
          rw [show nI i + Int32.ofInt 1 = nI (i + 1) from nI_1 i]
          exact ih (i + 1) N g _ _ _ _ (by omega) hNe hg2
        have hLall : ∀ s, s < 240 → va_up L c C s < 268435456 ^ 16 := hg.2
        intro e
        induction e with
        | zero =>
          intro j ov g l12 he hov hov1 hq
          have hfin : mG g (va_up L c N) := by
            have := hq.done hLall hNl (fun k h1 h2 => absurd h1 (by omega))
            rw [bx_uu] at this
            exact this
          refine z_iload F dX10_times_50 rfl ?_
          refine z_iload F dX10_times_52 rfl ?_
          refine z_iadd F dX10_times_54 ?_
          refine z_ti (nI_add _ _) ?_
          refine z_bipush (v := nI 16) F dX10_times_55 (by decide) ?_
          refine z_icmp_ge (tgt := 158) F dX10_times_57 (by decide) (fun c1 => ?_) (fun c1 => ?_)
          · exact next j ov g l12 hfin (by omega)
          · exact absurd (nI_le (a := 16) (by omega) (by omega)) c1
        | succ e ih2 =>
          intro j ov g l12 he hov hov1 hq
          have hij : i + j < 16 := by omega
          have hj16 : j < 16 := by omega
          have rc : vA (sA V1 (a 1) g) (a 1) (nI (16 * c + (i + j))).toNatClampNeg = nI (dg C (i + j)) := by rw [vA_sA_self, clw hc hij, hq.1 c (i + j) hc hij (Or.inr (Nat.le_refl _)), up_self]
          have rt : vA (sA V1 (a 1) g) (a 1) (nI (16 * t + j)).toNatClampNeg = nI (dg y j) := by rw [vA_sA_self, clw ht hj16, hq.1 t j ht hj16 (Or.inl ntc), up_ne _ _ ntc, hy0]
          obtain ⟨v, hv⟩ : ∃ v, v = dg C (i + j) + ov + xi * dg y j := ⟨_, rfl⟩
          obtain ⟨m1, m2⟩ := mul_dg hov hv hN
          have l1 := dg_lt C (i + j)
          have l2 := dg_lt y j
          have hvl : v < 268435456 * 268435456 := hv ▸ tim_lt lx hov1 l1 l2
          have hvd : v / 268435456 < 268435456 := (Nat.div_lt_iff_lt_mul (by decide)).mpr hvl
          -- the digit and the carry
          have st : zX Γ κ (Z, sA V1 (a 1) g) 0 0 Q 121 [some (.ref (a 0)), some (.int (nI s)), some (.int (nI t)), some (.int (nI c)), some (.int (nI tp)), some (.int (nI hi)), some (.int (nI i)), some (.long (lN xi)), none, some (.long (lN ov)), none, some (.int (nI j)), l12, none] [.long (lN v)] := by
            refine z_lstore_12 F dX10_times_121 rfl ?_
            refine z_aload_n F dX10_times_123 rfl ?_
            refine z_getR F dX10_times_124 gr_X10_7 (by assumption) (by assumption) ?_
            refine z_bipush (v := nI 16) F dX10_times_127 (by decide) ?_
            refine z_iload_n F dX10_times_129 rfl ?_
            refine z_imul F dX10_times_130 ?_
            refine z_iload F dX10_times_131 rfl ?_
            refine z_iadd F dX10_times_133 ?_
            refine z_ti (ixw c i) ?_
            refine z_iload F dX10_times_134 rfl ?_
            refine z_iadd F dX10_times_136 ?_
            refine z_ti (by rw [nI_add, Nat.add_assoc]) ?_
            refine z_lload F dX10_times_137 rfl ?_
            refine z_ldc2 (v := 268435455) F dX10_times_139 cn_X10_58 ?_
            refine z_land F dX10_times_142 ?_
            refine z_tl (land28 (by omega)) ?_
            refine z_l2i F dX10_times_143 ?_
            refine z_ti (lN_i _) ?_
            refine z_iast F dX10_times_144 (by assumption) (hR.inw hc hij) ?_
            refine z_V (show _ = sA V1 (a 1) (upd g (16 * c + (i + j)) (nI (v % 268435456))) by rw [clw hc hij, vA_sA_self, sA_sA]) ?_
            refine z_lload F dX10_times_145 rfl ?_
            refine z_bipush (v := nI 28) F dX10_times_147 (by decide) ?_
            refine z_lshr F dX10_times_149 ?_
            refine z_tl (lN_shr (by omega) (by decide)) ?_
            refine z_lstore_9 F dX10_times_150 rfl ?_
            refine z_iinc_11 F dX10_times_152 rfl ?_
            refine z_goto (tgt := 50) F dX10_times_155 (by decide) ?_
            rw [show nI j + Int32.ofInt 1 = nI (j + 1) from nI_1 j]
            exact ih2 (j + 1) (v / 268435456) _ _ (by omega) m2 hvd (hq.step hij (by rw [m1]))
          have body : zX Γ κ (Z, sA V1 (a 1) g) 0 0 Q 74 [some (.ref (a 0)), some (.int (nI s)), some (.int (nI t)), some (.int (nI c)), some (.int (nI tp)), some (.int (nI hi)), some (.int (nI i)), some (.long (lN xi)), none, some (.long (lN ov)), none, some (.int (nI j)), l12, none] [] := by
            refine z_aload_n F dX10_times_74 rfl ?_
            refine z_getR F dX10_times_75 gr_X10_7 (by assumption) (by assumption) ?_
            refine z_bipush (v := nI 16) F dX10_times_78 (by decide) ?_
            refine z_iload_n F dX10_times_80 rfl ?_
            refine z_imul F dX10_times_81 ?_
            refine z_iload F dX10_times_82 rfl ?_
            refine z_iadd F dX10_times_84 ?_
            refine z_ti (ixw c i) ?_
            refine z_iload F dX10_times_85 rfl ?_
            refine z_iadd F dX10_times_87 ?_
            refine z_ti (by rw [nI_add, Nat.add_assoc]) ?_
            refine z_iald F dX10_times_88 (by assumption) (hR.inw hc hij) ?_
            refine z_ti rc ?_
            refine z_i2l F dX10_times_89 ?_
            refine z_tl (nI_l (by omega)) ?_
            refine z_lload F dX10_times_90 rfl ?_
            refine z_ladd F dX10_times_92 ?_
            refine z_tl (lN_add _ _) ?_
            refine z_iload F dX10_times_93 rfl ?_
            refine z_iload F dX10_times_95 rfl ?_
            refine z_icmp_ge (tgt := 119) F dX10_times_97 (by decide) (fun c3 => ?_) (fun c3 => ?_)
            · have hjh := (nI_leI (by omega) (by omega)).mp c3
              have hz : dg y j = 0 := dg_hi hy hjh
              have e9 : dg C (i + j) + ov = v := by rw [hv, hz, Nat.mul_zero, Nat.add_zero]
              refine z_lconst (v := lN 0) F dX10_times_119 (by decide) ?_
              refine z_ladd F dX10_times_120 ?_
              refine z_tl (by rw [show (lN (dg C (i + j) + ov) + lN 0) = lN (dg C (i + j) + ov + 0) from lN_add _ 0, Nat.add_zero, e9]) ?_
              exact st
            · refine z_lload F dX10_times_100 rfl ?_
              refine z_aload_n F dX10_times_102 rfl ?_
              refine z_getR F dX10_times_103 gr_X10_7 (by assumption) (by assumption) ?_
              refine z_bipush (v := nI 16) F dX10_times_106 (by decide) ?_
              refine z_iload_n F dX10_times_108 rfl ?_
              refine z_imul F dX10_times_109 ?_
              refine z_iload F dX10_times_110 rfl ?_
              refine z_iadd F dX10_times_112 ?_
              refine z_ti (ixw t j) ?_
              refine z_iald F dX10_times_113 (by assumption) (hR.inw ht hj16) ?_
              refine z_ti rt ?_
              refine z_i2l F dX10_times_114 ?_
              refine z_tl (nI_l (by omega)) ?_
              refine z_lmul F dX10_times_115 ?_
              refine z_tl (lN_mul _ _) ?_
              refine z_goto (tgt := 120) F dX10_times_116 (by decide) ?_
              refine z_ladd F dX10_times_120 ?_
              refine z_tl (by rw [lN_add, ← hv]) ?_
              exact st
          refine z_iload F dX10_times_50 rfl ?_
          refine z_iload F dX10_times_52 rfl ?_
          refine z_iadd F dX10_times_54 ?_
          refine z_ti (nI_add _ _) ?_
          refine z_bipush (v := nI 16) F dX10_times_55 (by decide) ?_
          refine z_icmp_ge (tgt := 158) F dX10_times_57 (by decide) (fun c1 => ?_) (fun c1 => ?_)
          · exact absurd ((nI_leI (a := 16) (by omega) (by omega)).mp c1) (by omega)
          · refine z_iload F dX10_times_60 rfl ?_
            refine z_iload F dX10_times_62 rfl ?_
            refine z_icmp_lt (tgt := 74) F dX10_times_64 (by decide) (fun c2 => ?_) (fun c2 => ?_)
            · exact body
            · have hjh : hi ≤ j := Nat.le_of_not_lt (fun z => c2 ((nI_ltI (by omega) (by omega)).mpr z))
              refine z_lload F dX10_times_67 rfl ?_
              refine z_lconst (v := lN 0) F dX10_times_69 (by decide) ?_
              refine z_lcmp F dX10_times_70 ?_
              refine z_if_eq (tgt := 158) F dX10_times_71 (by decide) (fun c3 => ?_) (fun c3 => ?_)
              · have h0 : ov = 0 := (cmpN (y := 0) (by omega) (by decide)).mp c3
                have hyj : y % 268435456 ^ j = y := Nat.mod_eq_of_lt (Nat.lt_of_lt_of_le hy (Nat.pow_le_pow_right (by decide) hjh))
                rw [hyj] at hov
                have hlt0 : C % 268435456 ^ (i + j) + xi * y * 268435456 ^ i < 268435456 ^ (i + j) := by
                  rw [h0] at hov
                  exact Nat.lt_of_not_le (fun z => by have := Nat.div_pos z (dgp (i + j)); omega)
                have hdiv : ∀ k, i + j ≤ k → dg C k = dg N k := by
                  intro k hk
                  have e8 : N / 268435456 ^ (i + j) = C / 268435456 ^ (i + j) := by
                    have : N = C % 268435456 ^ (i + j) + xi * y * 268435456 ^ i + 268435456 ^ (i + j) * (C / 268435456 ^ (i + j)) := by
                      rw [hN]
                      have := Nat.mod_add_div C (268435456 ^ (i + j))
                      omega
                    rw [this, Nat.add_mul_div_left _ _ (dgp _), Nat.div_eq_of_lt hlt0, Nat.zero_add]
                  unfold dg
                  rw [show k = (i + j) + (k - (i + j)) by omega, Nat.pow_add, ← Nat.div_div_eq_div_mul, ← Nat.div_div_eq_div_mul, e8]
                have hfin : mG g (va_up L c N) := by
                  have := hq.done hLall hNl (fun k h1 h2 => by rw [up_self]; exact hdiv k h1)
                  rw [bx_uu] at this
                  exact this
                exact next j ov g l12 hfin (by omega)
              · exact body
      refine z_iload F dX10_times_22 rfl ?_
      refine z_iload F dX10_times_24 rfl ?_
      refine z_icmp_ge (tgt := 164) F dX10_times_26 (by decide) (fun c1 => ?_) (fun c1 => ?_)
      · exact absurd ((nI_leI (by omega) (by omega)).mp c1) (by omega)
      · refine z_aload_n F dX10_times_29 rfl ?_
        refine z_getR F dX10_times_30 gr_X10_7 (by assumption) (by assumption) ?_
        refine z_bipush (v := nI 16) F dX10_times_33 (by decide) ?_
        refine z_iload_n F dX10_times_35 rfl ?_
        refine z_imul F dX10_times_36 ?_
        refine z_iload F dX10_times_37 rfl ?_
        refine z_iadd F dX10_times_39 ?_
        refine z_ti (ixw s i) ?_
        refine z_iald F dX10_times_40 (by assumption) (hR.inw hs hi16) ?_
        refine z_ti rs ?_
        refine z_i2l F dX10_times_41 ?_
        refine z_tl (nI_l (by omega)) ?_
        refine z_lstore_7 F dX10_times_42 rfl ?_
        refine z_lconst (v := lN 0) F dX10_times_44 (by decide) ?_
        refine z_lstore_9 F dX10_times_45 rfl ?_
        refine z_iconst (v := nI 0) F dX10_times_47 (by decide) ?_
        refine z_istore_11 F dX10_times_48 rfl ?_
        refine inner (16 - i) 0 0 g _ (by omega) ?_ (by decide) ?_
        · rw [Nat.pow_zero, Nat.mod_one, Nat.mul_zero, Nat.zero_mul, Nat.add_zero, Nat.add_zero, Nat.div_eq_of_lt (Nat.mod_lt _ (dgp i))]
        · refine ⟨fun s' j' h1 h2 _ => hg.1 s' j' h1 h2, fun j' hj' => ?_⟩
          rw [hg.1 c j' hc (by omega), up_self]
          congr 1
          exact dg_lo (k := i) (by rw [hN, Nat.add_mul_mod_self_right]) (by omega)
  refine z_istore_5 F dX10_times_17 rfl ?_
  refine z_iconst (v := nI 0) F dX10_times_19 (by decide) ?_
  refine z_istore_6 F dX10_times_20 rfl ?_
  refine z_V (sA_id V1 (a 1)).symm ?_
  exact outer tp 0 0 _ _ _ _ _ (by omega) (by rw [Nat.pow_zero, Nat.mod_one, Nat.zero_mul]) hG1
end MOD3
