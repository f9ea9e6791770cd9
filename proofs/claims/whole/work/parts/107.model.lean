/-! ===== FractionRowsModel: divisor ===== -/
theorem cop2 {l : Nat} (h : l % 2 = 1) (e : Nat) : Nat.Coprime (2 ^ e) l := by
  refine Nat.Coprime.pow_left e ?_
  show Nat.gcd 2 l = 1
  rw [Nat.gcd_rec, h]; rfl
theorem gcd_odd {l h : Nat} (hl : l % 2 = 1) (e : Nat) : Nat.gcd l (2 ^ e * h) = Nat.gcd l h := Nat.Coprime.gcd_mul_left_cancel_right h (cop2 hl e)
theorem gcd_two {x y e f xo yo : Nat} (hx : x = 2 ^ e * xo) (hy : y = 2 ^ f * yo) (h1 : xo % 2 = 1) (h2 : yo % 2 = 1) : Nat.gcd x y = 2 ^ (if e < f then e else f) * Nat.gcd xo yo := by
  by_cases h : e < f
  · rw [if_pos h, hx, hy, show f = e + (f - e) by omega, Nat.pow_add, Nat.mul_assoc, Nat.gcd_mul_left, gcd_odd h1]
  · rw [if_neg h, hx, hy, show 2 ^ e = 2 ^ f * 2 ^ (e - f) by rw [← Nat.pow_add]; congr 1; omega, Nat.mul_assoc, Nat.gcd_mul_left, Nat.gcd_comm (2 ^ (e - f) * xo), gcd_odd h2, Nat.gcd_comm yo]
section MOD7
variable {Γ : Gm} {Z : Hz} {V : Hv} {a : Nat → Nat} {L : Nat → Nat} {s t : Nat}
set_option maxRecDepth 100000 in
set_option maxHeartbeats 1000000 in
theorem m_divisor (hR : mR Z a) (hG : mG (vA V (a 1)) L) (hs : s < 240) (ht : t < 240) (hs1 : s ≠ 227) (ht1 : t ≠ 227) (hx0 : L s ≠ 0) (hy0 : L t ≠ 0) : zCt Γ mX10_divisor 2 49 0 0 [.ref (a 0), .int (nI s), .int (nI t)] (Z, V) (pV (fun S' => ∃ L', mP Z V (a 1) L' S' ∧ L' 235 = Nat.gcd (L s) (L t) ∧ ∀ k, k ≠ 227 → k ≠ 228 → k ≠ 235 → L' k = L k)) := by
  refine zCt.of [some (.ref (a 0)), some (.int (nI s)), some (.int (nI t)), none, none, none, none, none, none, none] pn_X10_divisor rfl (Nat.le_of_ble_eq_true rfl) rfl (fun κ F => ?_)
  obtain ⟨b0, b1, -⟩ := hR.1
  obtain ⟨d1, d2, -⟩ := hR.2.1
  have hxl := hG.2 s hs
  have hyl := hG.2 t ht
  refine z_aload_n F dX10_divisor_0 rfl ?_
  refine z_iload_n F dX10_divisor_1 rfl ?_
  refine z_sipush (v := nI 227) F dX10_divisor_2 (by decide) ?_
  refine z_cVv F (m_carryOver (s := s) (t := 227) hR hG hs (by decide)) dX10_divisor_5 ml_X10_82 ok_X10_carryOver b0 (by decide) rfl rfl rfl (Nat.le_of_ble_eq_true rfl) (by decide) (by decide) (fun S' hS' => ?_)
  obtain ⟨V1, rfl, hE1, hG1⟩ := hS'
  refine z_aload_n F dX10_divisor_8 rfl ?_
  refine z_iload_n F dX10_divisor_9 rfl ?_
  refine z_sipush (v := nI 228) F dX10_divisor_10 (by decide) ?_
  refine z_cVv F (m_carryOver (s := t) (t := 228) hR hG1 ht (by decide)) dX10_divisor_13 ml_X10_82 ok_X10_carryOver b0 (by decide) rfl rfl rfl (Nat.le_of_ble_eq_true rfl) (by decide) (by decide) (fun S' hS' => ?_)
  obtain ⟨V2, rfl, hE2, hG2⟩ := hS'
  rw [up_ne _ _ ht1] at hG2
  generalize hQ : zQ Γ κ (pV (fun S' => ∃ L', mP Z V (a 1) L' S' ∧ L' 235 = Nat.gcd (L s) (L t) ∧ ∀ k, k ≠ 227 → k ≠ 228 → k ≠ 235 → L' k = L k)) 0 0 = Q
  generalize hxx : L s = x at *
  generalize hyy : L t = y at *
  refine z_aload_n F dX10_divisor_16 rfl ?_
  refine z_sipush (v := nI 227) F dX10_divisor_17 (by decide) ?_
  refine z_cVi F (m_halved (s := 227) hR hG2 (by decide) (by rw [up_ne _ _ (by decide), up_self]; exact hx0)) dX10_divisor_20 ml_X10_85 ok_X10_halved b0 (by decide) rfl rfl rfl (Nat.le_of_ble_eq_true rfl) (by decide) (by decide) (fun r S' hr => ?_)
  obtain ⟨e, xo, rfl, he, hxe, hxo, V3, rfl, hE3, hG3⟩ := hr
  rw [up_ne _ _ (by decide), up_self] at hxe
  refine z_istore_n_3 F dX10_divisor_23 rfl ?_
  refine z_aload_n F dX10_divisor_24 rfl ?_
  refine z_sipush (v := nI 228) F dX10_divisor_25 (by decide) ?_
  refine z_cVi F (m_halved (s := 228) hR hG3 (by decide) (by rw [up_ne _ _ (by decide), up_self]; exact hy0)) dX10_divisor_28 ml_X10_85 ok_X10_halved b0 (by decide) rfl rfl rfl (Nat.le_of_ble_eq_true rfl) (by decide) (by decide) (fun r S' hr => ?_)
  obtain ⟨f, yo, rfl, hf, hye, hyo, V4, rfl, hE4, hG4⟩ := hr
  rw [up_ne _ _ (by decide), up_self] at hye
  have hgcd := gcd_two hxe hye hxo hyo
  obtain ⟨sh, hsh⟩ : ∃ sh, sh = if e < f then e else f := ⟨_, rfl⟩
  rw [← hsh] at hgcd
  have hsh448 : sh < 448 := by rw [hsh]; split <;> omega
  have hgl : Nat.gcd x y < 268435456 ^ 16 := Nat.lt_of_le_of_lt (Nat.le_of_dvd (Nat.pos_of_ne_zero hx0) (Nat.gcd_dvd_left x y)) hxl
  -- at the end: doubled as often as both were even
  have dbl : ∀ (d k : Nat) (V5 : Hv) (L5 : Nat → Nat) (lw hg : Nat) (o7 : Int32) (l9 : Option Value), k + d = sh → eW (a 1) V V5 → mG (vA V5 (a 1)) L5 → L5 235 = 2 ^ k * Nat.gcd xo yo → (∀ k, k ≠ 227 → k ≠ 228 → k ≠ 235 → L5 k = L k) → zX Γ κ (Z, V5) 0 0 Q 153 [some (.ref (a 0)), some (.int (nI s)), some (.int (nI t)), some (.int (nI e)), some (.int (nI sh)), some (.int (nI lw)), some (.int (nI hg)), some (.int o7), some (.int (nI k)), l9] [] := by
    intro d
    induction d with
    | zero =>
      intro k V5 L5 lw hg o7 l9 hk hE5 hG5 h235 hk5
      refine z_iload F dX10_divisor_153 rfl ?_
      refine z_iload F dX10_divisor_155 rfl ?_
      refine z_icmp_ge (tgt := 174) F dX10_divisor_157 (by decide) (fun c1 => ?_) (fun c1 => ?_)
      · subst hQ
        exact z_vret F dX10_divisor_174 rfl ⟨L5, ⟨V5, rfl, hE5, hG5⟩, by rw [h235, hgcd, show k = sh by omega], hk5⟩
      · exact absurd (nI_le (by omega) (by omega)) c1
    | succ d ih =>
      intro k V5 L5 lw hg o7 l9 hk hE5 hG5 h235 hk5
      have hb : 2 * L5 235 + 0 < 268435456 ^ 16 := by
        refine Nat.lt_of_le_of_lt ?_ hgl
        rw [h235, hgcd, ← Nat.mul_assoc, ← Nat.pow_succ', Nat.add_zero]
        exact Nat.mul_le_mul_right _ (Nat.pow_le_pow_right (by decide) (by omega))
      refine z_iload F dX10_divisor_153 rfl ?_
      refine z_iload F dX10_divisor_155 rfl ?_
      refine z_icmp_ge (tgt := 174) F dX10_divisor_157 (by decide) (fun c1 => ?_) (fun c1 => ?_)
      · exact absurd ((nI_leI (by omega) (by omega)).mp c1) (by omega)
      · refine z_aload_n F dX10_divisor_160 rfl ?_
        refine z_sipush (v := nI 235) F dX10_divisor_161 (by decide) ?_
        refine z_iconst (v := nI 0) F dX10_divisor_164 (by decide) ?_
        refine z_cVv F (m_twice (s := 235) (b := 0) hR hG5 (by decide) (by decide) hb) dX10_divisor_165 ml_X10_72 ok_X10_twice b0 (by decide) rfl rfl rfl (Nat.le_of_ble_eq_true rfl) (by decide) (by decide) (fun S' hS' => ?_)
        obtain ⟨V6, rfl, hE6, hG6⟩ := hS'
        refine z_iinc_8 F dX10_divisor_168 rfl ?_
        refine z_goto (tgt := 153) F dX10_divisor_171 (by decide) ?_
        rw [show nI k + Int32.ofInt 1 = nI (k + 1) from nI_1 k]
        refine ih (k + 1) V6 _ lw hg _ _ (by omega) (hE5.trans hE6) hG6 ?_ (fun j h1 h2 h3 => by rw [up_ne _ _ h3]; exact hk5 j h1 h2 h3)
        rw [up_self, h235, Nat.add_zero, ← Nat.mul_assoc, ← Nat.pow_succ']
  have loop : ∀ (n : Nat) (V5 : Hv) (L5 : Nat → Nat) (lw hg : Nat) (l8 l9 : Option Value), ((lw = 227 ∧ hg = 228) ∨ (lw = 228 ∧ hg = 227)) → L5 lw + L5 hg ≤ n → L5 lw % 2 = 1 → L5 hg % 2 = 1 → Nat.gcd (L5 lw) (L5 hg) = Nat.gcd xo yo → eW (a 1) V V5 → mG (vA V5 (a 1)) L5 → (∀ k, k ≠ 227 → k ≠ 228 → k ≠ 235 → L5 k = L k) → zX Γ κ (Z, V5) 0 0 Q 60 [some (.ref (a 0)), some (.int (nI s)), some (.int (nI t)), some (.int (nI e)), some (.int (nI sh)), some (.int (nI lw)), some (.int (nI hg)), some (.int (nI 1)), l8, l9] [] := by
    intro n
    induction n with
    | zero => intro V5 L5 lw hg l8 l9 hlh hn ho1; omega
    | succ n ih =>
      intro V5 L5 lw hg l8 l9 hlh hn ho1 ho2 hgc hE5 hG5 hk5
      have hlw : lw < 240 := by omega
      have hhg : hg < 240 := by omega
      have hne : lw ≠ hg := by omega
      have hlw5 : lw ≠ 235 := by omega
      -- it ends: low is the divisor
      have fin : ∀ (l9 : Option Value), L5 lw = Nat.gcd xo yo → zX Γ κ (Z, V5) 0 0 Q 86 [some (.ref (a 0)), some (.int (nI s)), some (.int (nI t)), some (.int (nI e)), some (.int (nI sh)), some (.int (nI lw)), some (.int (nI hg)), some (.int (nI 1)), l8, l9] [.int (nI 0)] := by
        intro l9 hl
        refine z_istore_8 F dX10_divisor_86 rfl ?_
        refine z_iload F dX10_divisor_88 rfl ?_
        refine z_if_le (tgt := 105) F dX10_divisor_90 (by decide) (fun c1 => ?_) (fun c1 => ?_)
        · refine z_iload F dX10_divisor_105 rfl ?_
          refine z_if_eq (tgt := 114) F dX10_divisor_107 (by decide) (fun c2 => ?_) (fun c2 => ?_)
          · refine z_iconst (v := nI 0) F dX10_divisor_114 (by decide) ?_
            refine z_istore_7 F dX10_divisor_115 rfl ?_
            refine z_iload F dX10_divisor_117 rfl ?_
            refine z_if_eq (tgt := 138) F dX10_divisor_119 (by decide) (fun c3 => ?_) (fun c3 => ?_)
            · refine z_goto (tgt := 60) F dX10_divisor_138 (by decide) ?_
              refine z_iload F dX10_divisor_60 rfl ?_
              refine z_if_eq (tgt := 141) F dX10_divisor_62 (by decide) (fun c4 => ?_) (fun c4 => ?_)
              · refine z_aload_n F dX10_divisor_141 rfl ?_
                refine z_iload F dX10_divisor_142 rfl ?_
                refine z_sipush (v := nI 235) F dX10_divisor_144 (by decide) ?_
                refine z_cVv F (m_carryOver (s := lw) (t := 235) hR hG5 hlw (by decide)) dX10_divisor_147 ml_X10_82 ok_X10_carryOver b0 (by decide) rfl rfl rfl (Nat.le_of_ble_eq_true rfl) (by decide) (by decide) (fun S' hS' => ?_)
                obtain ⟨V6, rfl, hE6, hG6⟩ := hS'
                refine z_iconst (v := nI 0) F dX10_divisor_150 (by decide) ?_
                refine z_istore_8 F dX10_divisor_151 rfl ?_
                refine dbl sh 0 V6 _ lw hg _ _ (by omega) (hE5.trans hE6) hG6 ?_ (fun j h1 h2 h3 => by rw [up_ne _ _ h3]; exact hk5 j h1 h2 h3)
                rw [up_self, hl, Nat.pow_zero, Nat.one_mul]
              · exact absurd rfl c4
            · exact absurd rfl c3
          · exact absurd rfl c2
        · exact absurd (show nI 0 ≤ 0 by decide) c1
      -- the higher is lessened
      have step : ∀ (lw hg : Nat) (o : Int32) (l9 : Option Value), ((lw = 227 ∧ hg = 228) ∨ (lw = 228 ∧ hg = 227)) → ¬ o = 0 → L5 lw + L5 hg ≤ n + 1 → L5 lw % 2 = 1 → L5 hg % 2 = 1 → Nat.gcd (L5 lw) (L5 hg) = Nat.gcd xo yo → L5 lw < L5 hg → zX Γ κ (Z, V5) 0 0 Q 105 [some (.ref (a 0)), some (.int (nI s)), some (.int (nI t)), some (.int (nI e)), some (.int (nI sh)), some (.int (nI lw)), some (.int (nI hg)), some (.int (nI 1)), some (.int o), l9] [] := by
        intro lw hg o l9 hlh ho hn ho1 ho2 hgc hlt
        have hlw : lw < 240 := by omega
        have hhg : hg < 240 := by omega
        have hne : lw ≠ hg := by omega
        refine z_iload F dX10_divisor_105 rfl ?_
        refine z_if_eq (tgt := 114) F dX10_divisor_107 (by decide) (fun c2 => ?_) (fun c2 => ?_)
        · exact absurd c2 ho
        · refine z_iconst (v := nI 1) F dX10_divisor_110 (by decide) ?_
          refine z_goto (tgt := 115) F dX10_divisor_111 (by decide) ?_
          refine z_istore_7 F dX10_divisor_115 rfl ?_
          refine z_iload F dX10_divisor_117 rfl ?_
          refine z_if_eq (tgt := 138) F dX10_divisor_119 (by decide) (fun c3 => ?_) (fun c3 => ?_)
          · exact absurd c3 (by decide)
          · refine z_aload_n F dX10_divisor_122 rfl ?_
            refine z_iload F dX10_divisor_123 rfl ?_
            refine z_iload F dX10_divisor_125 rfl ?_
            refine z_cVv F (m_minus hR hG5 hhg hlw hne (Nat.le_of_lt hlt)) dX10_divisor_127 ml_X10_79 ok_X10_minus b0 (by decide) rfl rfl rfl (Nat.le_of_ble_eq_true rfl) (by decide) (by decide) (fun S' hS' => ?_)
            obtain ⟨V6, rfl, hE6, hG6⟩ := hS'
            refine z_aload_n F dX10_divisor_130 rfl ?_
            refine z_iload F dX10_divisor_131 rfl ?_
            refine z_cVi F (m_halved hR hG6 hhg (by rw [up_self]; omega)) dX10_divisor_133 ml_X10_85 ok_X10_halved b0 (by decide) rfl rfl rfl (Nat.le_of_ble_eq_true rfl) (by decide) (by decide) (fun r S' hr => ?_)
            obtain ⟨u, z, rfl, hu, hzu, hzo, V7, rfl, hE7, hG7⟩ := hr
            rw [up_self] at hzu
            rw [bx_uu] at hG7
            have hzle : z ≤ L5 hg - L5 lw := by
              rw [hzu]
              exact Nat.le_mul_of_pos_left z (Nat.pow_pos (by decide))
            refine z_istore_9 F dX10_divisor_136 rfl ?_
            refine z_goto (tgt := 60) F dX10_divisor_138 (by decide) ?_
            refine ih V7 _ lw hg _ _ hlh ?_ ?_ ?_ ?_ ((hE5.trans hE6).trans hE7) hG7 (fun j h1 h2 h3 => by rw [up_ne _ _ (by omega)]; exact hk5 j h1 h2 h3)
            · rw [up_self, up_ne _ _ hne]; omega
            · rw [up_ne _ _ hne]; exact ho1
            · rw [up_self]; exact hzo
            · rw [up_self, up_ne _ _ hne, ← hgc]
              have h1 : Nat.gcd (L5 lw) (L5 hg) = Nat.gcd (L5 lw) (L5 hg - L5 lw) := by
                conv => lhs; rw [show L5 hg = (L5 hg - L5 lw) + L5 lw by omega]
                rw [Nat.gcd_add_self_right]
              rw [h1, hzu, gcd_odd ho1]
      refine z_iload F dX10_divisor_60 rfl ?_
      refine z_if_eq (tgt := 141) F dX10_divisor_62 (by decide) (fun c0 => ?_) (fun c0 => ?_)
      · exact absurd c0 (by decide)
      · refine z_aload_n F dX10_divisor_65 rfl ?_
        refine z_iload F dX10_divisor_66 rfl ?_
        refine z_cVz F (m_isOne hR hG5 hlw) dX10_divisor_68 ml_X10_88 ok_X10_isOne b0 (by decide) rfl rfl rfl (Nat.le_of_ble_eq_true rfl) (by decide) (by decide) (fun r S' hr => ?_)
        obtain ⟨rfl, rfl⟩ := hr
        refine z_if_eq (tgt := 78) F dX10_divisor_71 (by decide) (fun c1 => ?_) (fun c1 => ?_)
        · refine z_aload_n F dX10_divisor_78 rfl ?_
          refine z_iload F dX10_divisor_79 rfl ?_
          refine z_iload F dX10_divisor_81 rfl ?_
          refine z_cVi F (m_orderOf hR hG5 hlw hhg) dX10_divisor_83 ml_X10_76 ok_X10_orderOf b0 (by decide) rfl rfl rfl (Nat.le_of_ble_eq_true rfl) (by decide) (by decide) (fun r S' hr => ?_)
          obtain ⟨rfl, rfl⟩ := hr
          rcases Nat.lt_trichotomy (L5 lw) (L5 hg) with h | h | h
          · have e1 : cmpI (L5 lw) (L5 hg) = -1 := by unfold cmpI; rw [if_pos h]
            rw [e1]
            refine z_istore_8 F dX10_divisor_86 rfl ?_
            refine z_iload F dX10_divisor_88 rfl ?_
            refine z_if_le (tgt := 105) F dX10_divisor_90 (by decide) (fun c2 => ?_) (fun c2 => ?_)
            · exact step lw hg (-1) _ hlh (by decide) hn ho1 ho2 hgc h
            · exact absurd (show (-1 : Int32) ≤ 0 by decide) c2
          · have e1 : cmpI (L5 lw) (L5 hg) = nI 0 := (cmpI_eq _ _).mpr h
            rw [e1]
            exact fin _ (by rw [← hgc, ← h, Nat.gcd_self])
          · have e1 : cmpI (L5 lw) (L5 hg) = 1 := by unfold cmpI; rw [if_neg (by omega), if_neg (by omega)]
            rw [e1]
            refine z_istore_8 F dX10_divisor_86 rfl ?_
            refine z_iload F dX10_divisor_88 rfl ?_
            refine z_if_le (tgt := 105) F dX10_divisor_90 (by decide) (fun c2 => ?_) (fun c2 => ?_)
            · exact absurd c2 (by decide)
            · refine z_iload F dX10_divisor_93 rfl ?_
              refine z_istore_9 F dX10_divisor_95 rfl ?_
              refine z_iload F dX10_divisor_97 rfl ?_
              refine z_istore_5 F dX10_divisor_99 rfl ?_
              refine z_iload F dX10_divisor_101 rfl ?_
              refine z_istore_6 F dX10_divisor_103 rfl ?_
              exact step hg lw 1 _ (by omega) (by decide) (by omega) ho2 ho1 (by rw [Nat.gcd_comm]; exact hgc) h
        · have h1 : L5 lw = 1 := of_decide_eq_true (zb_t c1)
          refine z_iconst (v := nI 0) F dX10_divisor_74 (by decide) ?_
          refine z_goto (tgt := 86) F dX10_divisor_75 (by decide) ?_
          exact fin _ (by rw [← hgc, h1, Nat.gcd_one_left])
  have go : zX Γ κ (Z, V4) (0 + 0 + 0 + 0 + 0) (0 + 0 + 0 + 0 + 0) Q 47 [some (.ref (a 0)), some (.int (nI s)), some (.int (nI t)), some (.int (nI e)), some (.int (nI sh)), none, none, none, none, none] [] := by
    refine z_sipush (v := nI 227) F dX10_divisor_47 (by decide) ?_
    refine z_istore_5 F dX10_divisor_50 rfl ?_
    refine z_sipush (v := nI 228) F dX10_divisor_52 (by decide) ?_
    refine z_istore_6 F dX10_divisor_55 rfl ?_
    refine z_iconst (v := nI 1) F dX10_divisor_57 (by decide) ?_
    refine z_istore_7 F dX10_divisor_58 rfl ?_
    have z7 : va_up (va_up (va_up (va_up L 227 x) 228 y) 227 xo) 228 yo 227 = xo := by rw [up_ne _ _ (by decide), up_self]
    have z8 : va_up (va_up (va_up (va_up L 227 x) 228 y) 227 xo) 228 yo 228 = yo := up_self _ _ _
    refine loop (xo + yo) V4 _ 227 228 _ _ (Or.inl ⟨rfl, rfl⟩) (by rw [z7, z8]; exact Nat.le_refl _) (by rw [z7]; exact hxo) (by rw [z8]; exact hyo) (by rw [z7, z8]) (((hE1.trans hE2).trans hE3).trans hE4) hG4 (fun j h1 h2 h3 => by rw [up_ne _ _ h2, up_ne _ _ h1, up_ne _ _ h2, up_ne _ _ h1])
  refine z_istore_4 F dX10_divisor_31 rfl ?_
  refine z_iload_n F dX10_divisor_33 rfl ?_
  refine z_iload F dX10_divisor_34 rfl ?_
  refine z_icmp_ge (tgt := 43) F dX10_divisor_36 (by decide) (fun c => ?_) (fun c => ?_)
  · have h : ¬ e < f := fun z => by have := (nI_leI (by omega) (by omega)).mp c; omega
    rw [if_neg h] at hsh
    refine z_iload F dX10_divisor_43 rfl ?_
    refine z_istore_4 F dX10_divisor_45 rfl ?_
    rw [hsh] at go
    exact go
  · have h : e < f := Nat.lt_of_not_le (fun z => c ((nI_leI (by omega) (by omega)).mpr z))
    rw [if_pos h] at hsh
    refine z_iload_n F dX10_divisor_39 rfl ?_
    refine z_goto (tgt := 45) F dX10_divisor_40 (by decide) ?_
    refine z_istore_4 F dX10_divisor_45 rfl ?_
    rw [hsh] at go
    exact go
end MOD7
