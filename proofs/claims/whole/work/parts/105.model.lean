/-! ===== FractionRowsModel: halved, divide ===== -/
theorem halve_key {b d0 w : Nat} (hb : b < 28) (hd : d0 < 268435456) : (d0 + 268435456 * w) / 2 ^ b % 268435456 = d0 / 2 ^ b + w % 268435456 * 2 ^ (28 - b) % 268435456 := by
  have hp : 0 < 2 ^ b := Nat.pow_pos (by decide)
  have e28 : (268435456 : Nat) = 2 ^ b * 2 ^ (28 - b) := by rw [← Nat.pow_add, show b + (28 - b) = 28 by omega]
  have e1 : (d0 + 268435456 * w) / 2 ^ b = d0 / 2 ^ b + 2 ^ (28 - b) * w := by
    conv => lhs; rw [e28, Nat.mul_assoc, Nat.add_mul_div_left _ _ hp]
  have hlt : d0 / 2 ^ b < 2 ^ (28 - b) := (Nat.div_lt_iff_lt_mul hp).mpr (by rw [Nat.mul_comm, ← e28]; exact hd)
  have e2 : w % 268435456 * 2 ^ (28 - b) % 268435456 = 2 ^ (28 - b) * (w % 2 ^ b) := by
    have e5 : w % 268435456 % 2 ^ b = w % 2 ^ b := by rw [e28, Nat.mod_mul_right_mod]
    have e6 : w % 268435456 * 2 ^ (28 - b) % 268435456 = 2 ^ (28 - b) * (w % 268435456 % 2 ^ b) := by
      conv => lhs; rw [Nat.mul_comm]; rhs; rw [e28, Nat.mul_comm]
      rw [Nat.mul_mod_mul_left]
    rw [e6, e5]
  have e3 : (d0 / 2 ^ b + 2 ^ (28 - b) * w) % 268435456 = d0 / 2 ^ b + 2 ^ (28 - b) * (w % 2 ^ b) := by
    conv => lhs; rhs; rw [e28, Nat.mul_comm]
    have := Nat.mod_mul (x := d0 / 2 ^ b + 2 ^ (28 - b) * w) (a := 2 ^ (28 - b)) (b := 2 ^ b)
    rw [this, Nat.add_mul_mod_self_left, Nat.mod_eq_of_lt hlt, Nat.add_mul_div_left _ _ (Nat.pow_pos (by decide)), Nat.div_eq_of_lt hlt, Nat.zero_add]
  rw [e1, e3, e2]
theorem halve_dg {x l b : Nat} (hb : b < 28) (k : Nat) : dg (x / 2 ^ (28 * l + b)) k = dg x (k + l) / 2 ^ b + dg x (k + l + 1) * 2 ^ (28 - b) % 268435456 := by
  have e : x / 2 ^ (28 * l + b) / 268435456 ^ k = x / 268435456 ^ (k + l) / 2 ^ b := by
    rw [Nat.pow_add, Nat.pow_mul, show (2 : Nat) ^ 28 = 268435456 from rfl, Nat.div_div_eq_div_mul, Nat.div_div_eq_div_mul]
    congr 1
    rw [Nat.pow_add, Nat.mul_assoc, Nat.mul_comm (2 ^ b), ← Nat.mul_assoc, Nat.mul_comm (268435456 ^ l)]
  have e2 : x / 268435456 ^ (k + l) = dg x (k + l) + 268435456 * (x / 268435456 ^ (k + l + 1)) := by
    have := div_dg x (k + l)
    rw [this]
    rw [Nat.mul_comm, Nat.add_comm]
  show x / 2 ^ (28 * l + b) / 268435456 ^ k % 268435456 = _
  rw [e, e2, halve_key hb (dg_lt _ _)]
  rfl
section MOD5
variable {Γ : Gm} {Z : Hz} {V : Hv} {a : Nat → Nat} {L : Nat → Nat} {s t c : Nat}
theorem mod_dvd {x k : Nat} (h : x % 268435456 ^ k = 0) (h2 : dg x k = 0) : x % 268435456 ^ (k + 1) = 0 := by rw [dg_mod, h, h2, Nat.zero_mul]
theorem low_dvd {x l b : Nat} (h : x % 268435456 ^ l = 0) (hb : b < 28) (h2 : dg x l % 2 ^ b = 0) (h3 : dg x l / 2 ^ b % 2 = 1) : x = 2 ^ (28 * l + b) * (x / 2 ^ (28 * l + b)) ∧ x / 2 ^ (28 * l + b) % 2 = 1 := by
  have hp : 0 < 2 ^ b := Nat.pow_pos (by decide)
  have e1 : x = 268435456 ^ l * (x / 268435456 ^ l) := by
    have := Nat.div_add_mod x (268435456 ^ l)
    omega
  have e28 : (268435456 : Nat) = 2 ^ b * 2 ^ (28 - b) := by rw [← Nat.pow_add, show b + (28 - b) = 28 by omega]
  have e2 : x / 268435456 ^ l % 2 ^ b = 0 := by
    have h4 : ∀ q : Nat, q % 268435456 % 2 ^ b = q % 2 ^ b := fun q => by
      conv => lhs; lhs; rw [e28]
      rw [Nat.mod_mul_right_mod]
    rw [← h4]; exact h2
  have e3 : x / 268435456 ^ l = 2 ^ b * (x / 268435456 ^ l / 2 ^ b) := by
    have := Nat.div_add_mod (x / 268435456 ^ l) (2 ^ b)
    omega
  have e4 : x / 2 ^ (28 * l + b) = x / 268435456 ^ l / 2 ^ b := by
    rw [Nat.pow_add, Nat.pow_mul, show (2 : Nat) ^ 28 = 268435456 from rfl, Nat.div_div_eq_div_mul]
  refine ⟨?_, ?_⟩
  · rw [e4, Nat.pow_add, Nat.pow_mul, show (2 : Nat) ^ 28 = 268435456 from rfl, Nat.mul_assoc, ← e3, ← e1]
  · rw [e4]
    have h5 : ∀ q : Nat, q % 268435456 / 2 ^ b % 2 = q / 2 ^ b % 2 := fun q => by
      have e6 : (268435456 : Nat) = 2 ^ b * (2 * 2 ^ (27 - b)) := by rw [← Nat.pow_succ', ← Nat.pow_add, show b + (27 - b + 1) = 28 by omega]
      conv => lhs; lhs; lhs; rw [e6]
      rw [Nat.mod_mul_right_div_self, Nat.mod_mul_right_mod]
    rw [← h5]; exact h3
set_option maxRecDepth 100000 in
set_option maxHeartbeats 1000000 in
theorem m_halved (hR : mR Z a) (hG : mG (vA V (a 1)) L) (hs : s < 240) (h0 : L s ≠ 0) : zCt Γ mX10_halved 1 22 0 0 [.ref (a 0), .int (nI s)] (Z, V) (pI (fun r S' => ∃ e y, r = nI e ∧ e < 448 ∧ L s = 2 ^ e * y ∧ y % 2 = 1 ∧ mP Z V (a 1) (va_up L s y) S')) := by
  refine zCt.of [some (.ref (a 0)), some (.int (nI s)), none, none, none, none, none, none] pn_X10_halved rfl (Nat.le_of_ble_eq_true rfl) rfl (fun κ F => ?_)
  obtain ⟨b0, b1, -⟩ := hR.1
  obtain ⟨d1, d2, -⟩ := hR.2.1
  generalize hQ : zQ Γ κ (pI (fun r S' => ∃ e y, r = nI e ∧ e < 448 ∧ L s = 2 ^ e * y ∧ y % 2 = 1 ∧ mP Z V (a 1) (va_up L s y) S')) 0 0 = Q
  have hxl := hG.2 s hs
  generalize hx0 : L s = x at *
  have rd : ∀ k, k < 16 → vA V (a 1) (nI (16 * s + k)).toNatClampNeg = nI (dg x k) := fun k hk => by rw [clw hs hk, hG.1 s k hs hk, hx0]
  have tail : ∀ l b, l < 16 → b < 28 → x = 2 ^ (28 * l + b) * (x / 2 ^ (28 * l + b)) → x / 2 ^ (28 * l + b) % 2 = 1 → zX Γ κ (Z, V) 0 0 Q 48 [some (.ref (a 0)), some (.int (nI s)), some (.int (nI l)), some (.int (nI b)), none, none, none, none] [] := by
    intro l b hl hb hdv hodd
    obtain ⟨y, hy⟩ : ∃ y, y = x / 2 ^ (28 * l + b) := ⟨_, rfl⟩
    rw [← hy] at hdv hodd
    have hyx : y ≤ x := hy ▸ Nat.div_le_self _ _
    have hyl : y < 268435456 ^ 16 := Nat.lt_of_le_of_lt hyx hxl
    refine z_aload_n F dX10_halved_48 rfl ?_
    refine z_iload_n F dX10_halved_49 rfl ?_
    refine z_cVi F (m_topOf hR hG hs) dX10_halved_50 ml_X10_60 ok_X10_topOf b0 (by decide) rfl rfl rfl (Nat.le_of_ble_eq_true rfl) (by decide) (by decide) (fun r S' hr => ?_)
    obtain ⟨rfl, tp, rfl, htp, hx, -⟩ := hr
    rw [hx0] at hx
    have loop : ∀ (d k : Nat) (g : Nat → Int32) (l6 l7 : Option Value), k + d = tp → mQ g L s k y → zX Γ κ (Z, sA V (a 1) g) 0 0 Q 58 [some (.ref (a 0)), some (.int (nI s)), some (.int (nI l)), some (.int (nI b)), some (.int (nI tp)), some (.int (nI k)), l6, l7] [] := by
      intro d
      induction d with
      | zero =>
        intro k g l6 l7 hk hq
        have hfin := hq.done hG.2 hyl (fun j h1 h2 => by rw [hx0, dg_hi hx (by omega), dg_hi (Nat.lt_of_le_of_lt hyx hx) (by omega)])
        refine z_iload F dX10_halved_58 rfl ?_
        refine z_iload F dX10_halved_60 rfl ?_
        refine z_icmp_ge (tgt := 163) F dX10_halved_62 (by decide) (fun c1 => ?_) (fun c1 => ?_)
        · subst hQ
          refine z_bipush (v := nI 28) F dX10_halved_163 (by decide) ?_
          refine z_iload_n F dX10_halved_165 rfl ?_
          refine z_imul F dX10_halved_166 ?_
          refine z_ti (pk_mul _ _) ?_
          refine z_iload_n F dX10_halved_167 rfl ?_
          refine z_iadd F dX10_halved_168 ?_
          refine z_ti (nI_add _ _) ?_
          exact z_iret F dX10_halved_169 rfl ⟨28 * l + b, y, rfl, by omega, hdv, hodd, mP.of hfin⟩
        · exact absurd (nI_le (by omega) (by omega)) c1
      | succ d ih =>
        intro k g l6 l7 hk hq
        have hk16 : k < 16 := by omega
        have rg : ∀ j, k ≤ j → j < 16 → vA (sA V (a 1) g) (a 1) (nI (16 * s + j)).toNatClampNeg = nI (dg x j) := fun j h1 h2 => by rw [vA_sA_self, clw hs h2, hq.1 s j hs h2 (Or.inr h1), hx0]
        have hdg := halve_dg (x := x) (l := l) hb k
        rw [← hy] at hdg
        have l0 := dg_lt x (k + l)
        have l1 := dg_lt x (k + l + 1)
        have hsum := dg_lt y k
        -- both digits stand
        have fin : zX Γ κ (Z, sA V (a 1) g) 0 0 Q 127 [some (.ref (a 0)), some (.int (nI s)), some (.int (nI l)), some (.int (nI b)), some (.int (nI tp)), some (.int (nI k)), some (.int (nI (dg x (k + l)))), some (.int (nI (dg x (k + l + 1))))] [] := by
          have e1 : nI (dg x (k + l)) >>> (nI b &&& 31) = nI (dg x (k + l) / 2 ^ b) := pk_shrN (by omega) _ _ (sh31 _ (by omega))
          have e2 : lN (dg x (k + l + 1)) <<< ((nI (28 - b)).toInt64 &&& 63) = lN (dg x (k + l + 1) * 2 ^ (28 - b)) := lN_shlk _ (by omega)
          have hbig : dg x (k + l + 1) * 2 ^ (28 - b) < 18446744073709551616 := by
            have h9 : 2 ^ (28 - b) ≤ 2 ^ 28 := Nat.pow_le_pow_right (by decide) (by omega)
            have : dg x (k + l + 1) * 2 ^ (28 - b) ≤ 268435456 * 2 ^ 28 := Nat.mul_le_mul (by omega) h9
            omega
          refine z_aload_n F dX10_halved_127 rfl ?_
          refine z_getR F dX10_halved_128 gr_X10_7 (by assumption) (by assumption) ?_
          refine z_bipush (v := nI 16) F dX10_halved_131 (by decide) ?_
          refine z_iload_n F dX10_halved_133 rfl ?_
          refine z_imul F dX10_halved_134 ?_
          refine z_iload F dX10_halved_135 rfl ?_
          refine z_iadd F dX10_halved_137 ?_
          refine z_ti (ixw s k) ?_
          refine z_iload F dX10_halved_138 rfl ?_
          refine z_iload_n F dX10_halved_140 rfl ?_
          refine z_ishr F dX10_halved_141 ?_
          refine z_ti e1 ?_
          refine z_iload F dX10_halved_142 rfl ?_
          refine z_i2l F dX10_halved_144 ?_
          refine z_tl (nI_l (by omega)) ?_
          refine z_bipush (v := nI 28) F dX10_halved_145 (by decide) ?_
          refine z_iload_n F dX10_halved_147 rfl ?_
          refine z_isub F dX10_halved_148 ?_
          refine z_ti (pk_sub (by omega)) ?_
          refine z_lshl F dX10_halved_149 ?_
          refine z_tl e2 ?_
          refine z_ldc2 (v := 268435455) F dX10_halved_150 cn_X10_58 ?_
          refine z_land F dX10_halved_153 ?_
          refine z_tl (land28 hbig) ?_
          refine z_l2i F dX10_halved_154 ?_
          refine z_ti (lN_i _) ?_
          refine z_iadd F dX10_halved_155 ?_
          refine z_ti (nI_add _ _) ?_
          refine z_iast F dX10_halved_156 (by assumption) (hR.inw hs hk16) ?_
          rw [← hdg]
          refine z_V (show _ = sA V (a 1) (upd g (16 * s + k) (nI (dg y k))) by rw [clw hs hk16, vA_sA_self, sA_sA]) ?_
          refine z_iinc_5 F dX10_halved_157 rfl ?_
          refine z_goto (tgt := 58) F dX10_halved_160 (by decide) ?_
          rw [show nI k + Int32.ofInt 1 = nI (k + 1) from nI_1 k]
          exact ih (k + 1) _ _ _ (by omega) (hq.step hk16 rfl)
        have mid : ∀ l7 : Option Value, zX Γ κ (Z, sA V (a 1) g) 0 0 Q 94 [some (.ref (a 0)), some (.int (nI s)), some (.int (nI l)), some (.int (nI b)), some (.int (nI tp)), some (.int (nI k)), some (.int (nI (dg x (k + l)))), l7] [] := by
          intro l7
          refine z_iload F dX10_halved_94 rfl ?_
          refine z_iload_n F dX10_halved_96 rfl ?_
          refine z_iadd F dX10_halved_97 ?_
          refine z_ti (nI_add _ _) ?_
          refine z_iconst (v := nI 1) F dX10_halved_98 (by decide) ?_
          refine z_iadd F dX10_halved_99 ?_
          refine z_ti (nI_add _ 1) ?_
          refine z_bipush (v := nI 16) F dX10_halved_100 (by decide) ?_
          refine z_icmp_ge (tgt := 124) F dX10_halved_102 (by decide) (fun c3 => ?_) (fun c3 => ?_)
          · have h16 := (nI_leI (a := 16) (by omega) (by omega)).mp c3
            have hz : dg x (k + l + 1) = 0 := dg_hi hxl h16
            refine z_iconst (v := nI 0) F dX10_halved_124 (by decide) ?_
            refine z_istore_7 F dX10_halved_125 rfl ?_
            rw [hz] at fin
            exact fin
          · have h16 : k + l + 1 < 16 := Nat.lt_of_not_le (fun z => c3 (nI_le (a := 16) z (by omega)))
            have ix : nI (16 * s + k) + nI l + nI 1 = nI (16 * s + (k + l + 1)) := by rw [nI_add, nI_add]; congr 1; omega
            refine z_aload_n F dX10_halved_105 rfl ?_
            refine z_getR F dX10_halved_106 gr_X10_7 (by assumption) (by assumption) ?_
            refine z_bipush (v := nI 16) F dX10_halved_109 (by decide) ?_
            refine z_iload_n F dX10_halved_111 rfl ?_
            refine z_imul F dX10_halved_112 ?_
            refine z_iload F dX10_halved_113 rfl ?_
            refine z_iadd F dX10_halved_115 ?_
            refine z_ti (ixw s k) ?_
            refine z_iload_n F dX10_halved_116 rfl ?_
            refine z_iadd F dX10_halved_117 ?_
            refine z_iconst (v := nI 1) F dX10_halved_118 (by decide) ?_
            refine z_iadd F dX10_halved_119 ?_
            refine z_ti ix ?_
            refine z_iald F dX10_halved_120 (by assumption) (hR.inw hs h16) ?_
            refine z_ti (rg _ (by omega) h16) ?_
            refine z_goto (tgt := 125) F dX10_halved_121 (by decide) ?_
            refine z_istore_7 F dX10_halved_125 rfl ?_
            exact fin
        refine z_iload F dX10_halved_58 rfl ?_
        refine z_iload F dX10_halved_60 rfl ?_
        refine z_icmp_ge (tgt := 163) F dX10_halved_62 (by decide) (fun c1 => ?_) (fun c1 => ?_)
        · exact absurd ((nI_leI (by omega) (by omega)).mp c1) (by omega)
        · refine z_iload F dX10_halved_65 rfl ?_
          refine z_iload_n F dX10_halved_67 rfl ?_
          refine z_iadd F dX10_halved_68 ?_
          refine z_ti (nI_add _ _) ?_
          refine z_bipush (v := nI 16) F dX10_halved_69 (by decide) ?_
          refine z_icmp_ge (tgt := 91) F dX10_halved_71 (by decide) (fun c2 => ?_) (fun c2 => ?_)
          · have h16 := (nI_leI (a := 16) (by omega) (by omega)).mp c2
            have hz : dg x (k + l) = 0 := dg_hi hxl h16
            refine z_iconst (v := nI 0) F dX10_halved_91 (by decide) ?_
            refine z_istore_6 F dX10_halved_92 rfl ?_
            have := mid l7
            rw [hz] at this
            exact this
          · have h16 : k + l < 16 := Nat.lt_of_not_le (fun z => c2 (nI_le (a := 16) z (by omega)))
            have ix : nI (16 * s + k) + nI l = nI (16 * s + (k + l)) := by rw [nI_add]; congr 1; omega
            refine z_aload_n F dX10_halved_74 rfl ?_
            refine z_getR F dX10_halved_75 gr_X10_7 (by assumption) (by assumption) ?_
            refine z_bipush (v := nI 16) F dX10_halved_78 (by decide) ?_
            refine z_iload_n F dX10_halved_80 rfl ?_
            refine z_imul F dX10_halved_81 ?_
            refine z_iload F dX10_halved_82 rfl ?_
            refine z_iadd F dX10_halved_84 ?_
            refine z_ti (ixw s k) ?_
            refine z_iload_n F dX10_halved_85 rfl ?_
            refine z_iadd F dX10_halved_86 ?_
            refine z_ti ix ?_
            refine z_iald F dX10_halved_87 (by assumption) (hR.inw hs h16) ?_
            refine z_ti (rg _ (by omega) h16) ?_
            refine z_goto (tgt := 92) F dX10_halved_88 (by decide) ?_
            refine z_istore_6 F dX10_halved_92 rfl ?_
            exact mid l7
    refine z_istore_4 F dX10_halved_53 rfl ?_
    refine z_iconst (v := nI 0) F dX10_halved_55 (by decide) ?_
    refine z_istore_5 F dX10_halved_56 rfl ?_
    refine z_V (sA_id V (a 1)).symm ?_
    exact loop tp 0 _ _ _ (by omega) (mQ.zero hG)
  have bits : ∀ (l : Nat), l < 16 → x % 268435456 ^ l = 0 → dg x l ≠ 0 → ∀ (f b : Nat), b + f = 28 → dg x l % 2 ^ b = 0 → zX Γ κ (Z, V) 0 0 Q 24 [some (.ref (a 0)), some (.int (nI s)), some (.int (nI l)), some (.int (nI b)), none, none, none, none] [] := by
    intro l hl hxm hd f
    have hlt := dg_lt x l
    induction f with
    | zero =>
      intro b hb hm
      rw [show b = 28 by omega, show (2 : Nat) ^ 28 = 268435456 from rfl, Nat.mod_eq_of_lt hlt] at hm
      exact absurd hm hd
    | succ f ih =>
      intro b hb hm
      have hb28 : b < 28 := by omega
      have e1 : nI (dg x l) >>> (nI b &&& 31) = nI (dg x l / 2 ^ b) := pk_shrN (by omega) _ _ (sh31 _ (by omega))
      have hl2 : dg x l / 2 ^ b < 2147483648 := Nat.lt_of_le_of_lt (Nat.div_le_self _ _) (by omega)
      refine z_aload_n F dX10_halved_24 rfl ?_
      refine z_getR F dX10_halved_25 gr_X10_7 (by assumption) (by assumption) ?_
      refine z_bipush (v := nI 16) F dX10_halved_28 (by decide) ?_
      refine z_iload_n F dX10_halved_30 rfl ?_
      refine z_imul F dX10_halved_31 ?_
      refine z_iload_n F dX10_halved_32 rfl ?_
      refine z_iadd F dX10_halved_33 ?_
      refine z_ti (ixw s l) ?_
      refine z_iald F dX10_halved_34 (by assumption) (hR.inw hs hl) ?_
      refine z_ti (rd l hl) ?_
      refine z_iload_n F dX10_halved_35 rfl ?_
      refine z_ishr F dX10_halved_36 ?_
      refine z_ti e1 ?_
      refine z_iconst (v := nI 1) F dX10_halved_37 (by decide) ?_
      refine z_iand F dX10_halved_38 ?_
      refine z_ti (and1 hl2) ?_
      refine z_if_ne (tgt := 48) F dX10_halved_39 (by decide) (fun c1 => ?_) (fun c1 => ?_)
      · have h1 : dg x l / 2 ^ b % 2 = 1 := by
          rcases Nat.mod_two_eq_zero_or_one (dg x l / 2 ^ b) with z | z
          · exact absurd (by rw [z]; rfl) c1
          · exact z
        obtain ⟨p1, p2⟩ := low_dvd hxm hb28 hm h1
        exact tail l b hl hb28 p1 p2
      · have h1 : dg x l / 2 ^ b % 2 = 0 := (nI_ne0' (by omega)).mp c1
        refine z_iinc_3 F dX10_halved_42 rfl ?_
        refine z_goto (tgt := 24) F dX10_halved_45 (by decide) ?_
        rw [show nI b + Int32.ofInt 1 = nI (b + 1) from nI_1 b]
        refine ih (b + 1) (by omega) ?_
        rw [Nat.pow_succ, Nat.mod_mul, hm, h1, Nat.mul_zero]
  have limbs : ∀ (f l : Nat), l + f = 16 → x % 268435456 ^ l = 0 → zX Γ κ (Z, V) 0 0 Q 2 [some (.ref (a 0)), some (.int (nI s)), some (.int (nI l)), none, none, none, none, none] [] := by
    intro f
    induction f with
    | zero =>
      intro l hl hxm
      rw [show l = 16 by omega, Nat.mod_eq_of_lt hxl] at hxm
      exact absurd hxm h0
    | succ f ih =>
      intro l hl hxm
      have hl16 : l < 16 := by omega
      have hlt := dg_lt x l
      refine z_aload_n F dX10_halved_2 rfl ?_
      refine z_getR F dX10_halved_3 gr_X10_7 (by assumption) (by assumption) ?_
      refine z_bipush (v := nI 16) F dX10_halved_6 (by decide) ?_
      refine z_iload_n F dX10_halved_8 rfl ?_
      refine z_imul F dX10_halved_9 ?_
      refine z_iload_n F dX10_halved_10 rfl ?_
      refine z_iadd F dX10_halved_11 ?_
      refine z_ti (ixw s l) ?_
      refine z_iald F dX10_halved_12 (by assumption) (hR.inw hs hl16) ?_
      refine z_ti (rd l hl16) ?_
      refine z_if_ne (tgt := 22) F dX10_halved_13 (by decide) (fun c1 => ?_) (fun c1 => ?_)
      · have hd : dg x l ≠ 0 := fun z => c1 ((nI_ne0' (by omega)).mpr z)
        refine z_iconst (v := nI 0) F dX10_halved_22 (by decide) ?_
        refine z_istore_n_3 F dX10_halved_23 rfl ?_
        exact bits l hl16 hxm hd 28 0 rfl (by rw [Nat.pow_zero, Nat.mod_one])
      · have hd : dg x l = 0 := (nI_ne0' (by omega)).mp c1
        refine z_iinc_2 F dX10_halved_16 rfl ?_
        refine z_goto (tgt := 2) F dX10_halved_19 (by decide) ?_
        rw [show nI l + Int32.ofInt 1 = nI (l + 1) from nI_1 l]
        exact ih (l + 1) (by omega) (mod_dvd hxm hd)
  refine z_iconst (v := nI 0) F dX10_halved_0 (by decide) ?_
  refine z_istore_n_2 F dX10_halved_1 rfl ?_
  exact limbs 16 0 rfl (by rw [Nat.pow_zero, Nat.mod_one])
end MOD5
