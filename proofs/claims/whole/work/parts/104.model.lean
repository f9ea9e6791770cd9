/-! ===== FractionRowsModel: twice, tenfold, tenth, restBy, bitsOf ===== -/
theorem sca_dg {m x b k ov : Nat} (hov : ov = (m * (x % 268435456 ^ k) + b) / 268435456 ^ k) : dg (m * x + b) k = (m * dg x k + ov) % 268435456 ∧ (m * (x % 268435456 ^ (k + 1)) + b) / 268435456 ^ (k + 1) = (m * dg x k + ov) / 268435456 := by
  have hs : (m * (x % 268435456 ^ (k + 1)) + b) / 268435456 ^ k = m * dg x k + ov := by
    rw [dg_mod, Nat.mul_add, show m * (x % 268435456 ^ k) + m * (dg x k * 268435456 ^ k) + b = (m * (x % 268435456 ^ k) + b) + m * dg x k * 268435456 ^ k by rw [← Nat.mul_assoc]; omega, Nat.add_mul_div_right _ _ (dgp k), ← hov]
    omega
  refine ⟨dg_of (y := m * (x % 268435456 ^ (k + 1)) + b) ?_ hs, by rw [← hs, Nat.pow_succ, ← Nat.div_div_eq_div_mul, ← Nat.pow_succ]⟩
  rw [Nat.add_mod, Nat.mul_mod, ← Nat.mod_mod x, ← Nat.mul_mod, ← Nat.add_mod, Nat.mod_mod]
section MOD4
variable {Γ : Gm} {Z : Hz} {V : Hv} {a : Nat → Nat} {L : Nat → Nat} {s t c : Nat}
set_option maxRecDepth 100000 in
theorem m_twice {b : Nat} (hR : mR Z a) (hG : mG (vA V (a 1)) L) (hs : s < 240) (hb1 : b ≤ 1) (hb : 2 * L s + b < 268435456 ^ 16) : zCt Γ mX10_twice 1 22 0 0 [.ref (a 0), .int (nI s), .int (nI b)] (Z, V) (pV (mP Z V (a 1) (va_up L s (2 * L s + b)))) := by
  refine zCt.of [some (.ref (a 0)), some (.int (nI s)), some (.int (nI b)), none, none, none, none] pn_X10_twice rfl (Nat.le_of_ble_eq_true rfl) rfl (fun κ F => ?_)
  obtain ⟨b0, b1, -⟩ := hR.1
  obtain ⟨d1, d2, -⟩ := hR.2.1
  refine z_iload_n F dX10_twice_0 rfl ?_
  refine z_istore_n_3 F dX10_twice_1 rfl ?_
  refine z_aload_n F dX10_twice_2 rfl ?_
  refine z_iload_n F dX10_twice_3 rfl ?_
  refine z_cVi F (m_topOf hR hG hs) dX10_twice_4 ml_X10_60 ok_X10_topOf b0 (by decide) rfl rfl rfl (Nat.le_of_ble_eq_true rfl) (by decide) (by decide) (fun r S' hr => ?_)
  obtain ⟨rfl, tp, rfl, htp, hx, -⟩ := hr
  generalize hQ : zQ Γ κ (pV (mP Z V (a 1) (va_up L s (2 * L s + b)))) 0 0 = Q
  generalize hx0 : L s = x at *
  have loop : ∀ (d k ov : Nat) (g : Nat → Int32) (l6 : Option Value), k + d = 16 → ov = (2 * (x % 268435456 ^ k) + b) / 268435456 ^ k → ov ≤ 1 → mQ g L s k (2 * x + b) → zX Γ κ (Z, sA V (a 1) g) 0 0 Q 12 [some (.ref (a 0)), some (.int (nI s)), some (.int (nI b)), some (.int (nI ov)), some (.int (nI tp)), some (.int (nI k)), l6] [] := by
    intro d
    induction d with
    | zero =>
      intro k ov g l6 hk hov hov1 hq
      have hk16 : k = 16 := by omega
      have hfin := hq.done hG.2 hb (fun j h1 h2 => absurd h1 (by omega))
      have h0 : ov = 0 := by
        rw [hov, hk16, Nat.mod_eq_of_lt (by have := hG.2 s hs; rw [hx0] at this; exact this), Nat.div_eq_of_lt hb]
      refine z_iload F dX10_twice_12 rfl ?_
      refine z_iload F dX10_twice_14 rfl ?_
      refine z_icmp_lt (tgt := 23) F dX10_twice_16 (by decide) (fun c1 => ?_) (fun c1 => ?_)
      · exact absurd ((nI_ltI (by omega) (by omega)).mp c1) (by omega)
      · refine z_iload_n F dX10_twice_19 rfl ?_
        refine z_if_eq (tgt := 70) F dX10_twice_20 (by decide) (fun c2 => ?_) (fun c2 => ?_)
        · subst hQ
          exact z_vret F dX10_twice_70 rfl (mP.of hfin)
        · exact absurd (by rw [h0]; rfl) c2
    | succ d ih =>
      intro k ov g l6 hk hov hov1 hq
      have hk16 : k < 16 := by omega
      have rd : vA (sA V (a 1) g) (a 1) (nI (16 * s + k)).toNatClampNeg = nI (dg x k) := by rw [vA_sA_self, clw hs hk16, hq.1 s k hs hk16 (Or.inr (Nat.le_refl k)), hx0]
      obtain ⟨a1, a2⟩ := sca_dg hov
      have l1 := dg_lt x k
      obtain ⟨v, hv⟩ : ∃ v, v = 2 * dg x k + ov := ⟨_, rfl⟩
      rw [← hv] at a1 a2
      have hvl : v < 2147483648 := by omega
      have hv1 : v / 268435456 ≤ 1 := by omega
      have body : zX Γ κ (Z, sA V (a 1) g) 0 0 Q 23 [some (.ref (a 0)), some (.int (nI s)), some (.int (nI b)), some (.int (nI ov)), some (.int (nI tp)), some (.int (nI k)), l6] [] := by
        refine z_iconst (v := nI 2) F dX10_twice_23 (by decide) ?_
        refine z_aload_n F dX10_twice_24 rfl ?_
        refine z_getR F dX10_twice_25 gr_X10_7 (by assumption) (by assumption) ?_
        refine z_bipush (v := nI 16) F dX10_twice_28 (by decide) ?_
        refine z_iload_n F dX10_twice_30 rfl ?_
        refine z_imul F dX10_twice_31 ?_
        refine z_iload F dX10_twice_32 rfl ?_
        refine z_iadd F dX10_twice_34 ?_
        refine z_ti (ixw s k) ?_
        refine z_iald F dX10_twice_35 (by assumption) (hR.inw hs hk16) ?_
        refine z_ti rd ?_
        refine z_imul F dX10_twice_36 ?_
        refine z_ti (pk_mul _ _) ?_
        refine z_iload_n F dX10_twice_37 rfl ?_
        refine z_iadd F dX10_twice_38 ?_
        refine z_ti (nI_add _ _) ?_
        rw [← hv]
        refine z_istore_6 F dX10_twice_39 rfl ?_
        refine z_aload_n F dX10_twice_41 rfl ?_
        refine z_getR F dX10_twice_42 gr_X10_7 (by assumption) (by assumption) ?_
        refine z_bipush (v := nI 16) F dX10_twice_45 (by decide) ?_
        refine z_iload_n F dX10_twice_47 rfl ?_
        refine z_imul F dX10_twice_48 ?_
        refine z_iload F dX10_twice_49 rfl ?_
        refine z_iadd F dX10_twice_51 ?_
        refine z_ti (ixw s k) ?_
        refine z_iload F dX10_twice_52 rfl ?_
        refine z_ldc (v := 268435455) F dX10_twice_54 cn_X10_64 ?_
        refine z_iand F dX10_twice_56 ?_
        refine z_ti (and28 (by omega)) ?_
        refine z_iast F dX10_twice_57 (by assumption) (hR.inw hs hk16) ?_
        refine z_V (show _ = sA V (a 1) (upd g (16 * s + k) (nI (v % 268435456))) by rw [clw hs hk16, vA_sA_self, sA_sA]) ?_
        refine z_iload F dX10_twice_58 rfl ?_
        refine z_bipush (v := nI 28) F dX10_twice_60 (by decide) ?_
        refine z_ishr F dX10_twice_62 ?_
        refine z_ti (shr28 hvl) ?_
        refine z_istore_n_3 F dX10_twice_63 rfl ?_
        refine z_iinc_5 F dX10_twice_64 rfl ?_
        refine z_goto (tgt := 12) F dX10_twice_67 (by decide) ?_
        rw [show nI k + Int32.ofInt 1 = nI (k + 1) from nI_1 k]
        exact ih (k + 1) (v / 268435456) _ _ (by omega) a2.symm hv1 (hq.step hk16 (by rw [a1]))
      refine z_iload F dX10_twice_12 rfl ?_
      refine z_iload F dX10_twice_14 rfl ?_
      refine z_icmp_lt (tgt := 23) F dX10_twice_16 (by decide) (fun c1 => ?_) (fun c1 => ?_)
      · exact body
      · have hkt : tp ≤ k := Nat.le_of_not_lt (fun z => c1 ((nI_ltI (by omega) (by omega)).mpr z))
        refine z_iload_n F dX10_twice_19 rfl ?_
        refine z_if_eq (tgt := 70) F dX10_twice_20 (by decide) (fun c2 => ?_) (fun c2 => ?_)
        · have h0 : ov = 0 := (nI_ne0' (by omega)).mp c2
          have hxk : x < 268435456 ^ k := Nat.lt_of_lt_of_le hx (Nat.pow_le_pow_right (by decide) hkt)
          have hlt : 2 * x + b < 268435456 ^ k := by
            rw [h0, Nat.mod_eq_of_lt hxk] at hov
            exact Nat.lt_of_not_le (fun z => by have := Nat.div_pos z (dgp k); omega)
          have hfin := hq.done hG.2 hb (fun j h1 h2 => by rw [hx0, dg_hi hxk h1, dg_hi hlt h1])
          subst hQ
          exact z_vret F dX10_twice_70 rfl (mP.of hfin)
        · exact body
  refine z_istore_4 F dX10_twice_7 rfl ?_
  refine z_iconst (v := nI 0) F dX10_twice_9 (by decide) ?_
  refine z_istore_5 F dX10_twice_10 rfl ?_
  refine z_V (sA_id V (a 1)).symm ?_
  refine loop 16 0 b _ _ rfl ?_ hb1 (mQ.zero hG)
  rw [Nat.pow_zero, Nat.mod_one, Nat.mul_zero, Nat.zero_add, Nat.div_one]
set_option maxRecDepth 100000 in
theorem m_tenfold (hR : mR Z a) (hG : mG (vA V (a 1)) L) (hs : s < 240) (hb : 10 * L s < 268435456 ^ 16) : zCt Γ mX10_tenfold 0 0 0 0 [.ref (a 0), .int (nI s)] (Z, V) (pV (mP Z V (a 1) (va_up L s (10 * L s)))) := by
  refine zCt.of [some (.ref (a 0)), some (.int (nI s)), none, none, none, none] pn_X10_tenfold rfl (Nat.le_of_ble_eq_true rfl) rfl (fun κ F => ?_)
  obtain ⟨b0, b1, -⟩ := hR.1
  obtain ⟨d1, d2, -⟩ := hR.2.1
  generalize hQ : zQ Γ κ (pV (mP Z V (a 1) (va_up L s (10 * L s)))) 0 0 = Q
  generalize hx0 : L s = x at *
  have loop : ∀ (d k ov : Nat) (g : Nat → Int32) (l4 : Option Value), k + d = 16 → ov = (10 * (x % 268435456 ^ k) + 0) / 268435456 ^ k → ov < 10 → mQ g L s k (10 * x + 0) → zX Γ κ (Z, sA V (a 1) g) 0 0 Q 4 [some (.ref (a 0)), some (.int (nI s)), some (.int (nI ov)), some (.int (nI k)), l4, none] [] := by
    intro d
    induction d with
    | zero =>
      intro k ov g l4 hk hov hov1 hq
      have hfin := hq.done hG.2 hb (fun j h1 h2 => absurd h1 (by omega))
      refine z_iload_n F dX10_tenfold_4 rfl ?_
      refine z_bipush (v := nI 16) F dX10_tenfold_5 (by decide) ?_
      refine z_icmp_ge (tgt := 62) F dX10_tenfold_7 (by decide) (fun c1 => ?_) (fun c1 => ?_)
      · subst hQ
        exact z_vret F dX10_tenfold_62 rfl (mP.of hfin)
      · exact absurd (nI_le (a := 16) (by omega) (by omega)) c1
    | succ d ih =>
      intro k ov g l4 hk hov hov1 hq
      have hk16 : k < 16 := by omega
      have rd : vA (sA V (a 1) g) (a 1) (nI (16 * s + k)).toNatClampNeg = nI (dg x k) := by rw [vA_sA_self, clw hs hk16, hq.1 s k hs hk16 (Or.inr (Nat.le_refl k)), hx0]
      obtain ⟨a1, a2⟩ := sca_dg hov
      have l1 := dg_lt x k
      obtain ⟨v, hv⟩ : ∃ v, v = 10 * dg x k + ov := ⟨_, rfl⟩
      rw [← hv] at a1 a2
      have hvl : v < 9223372036854775808 := by omega
      have hv1 : v / 268435456 < 10 := by omega
      refine z_iload_n F dX10_tenfold_4 rfl ?_
      refine z_bipush (v := nI 16) F dX10_tenfold_5 (by decide) ?_
      refine z_icmp_ge (tgt := 62) F dX10_tenfold_7 (by decide) (fun c1 => ?_) (fun c1 => ?_)
      · exact absurd ((nI_leI (a := 16) (by omega) (by omega)).mp c1) (by omega)
      · refine z_ldc2 (v := 10) F dX10_tenfold_10 cn_X10_225 ?_
        refine z_tl (show (10 : Int64) = lN 10 from rfl) ?_
        refine z_aload_n F dX10_tenfold_13 rfl ?_
        refine z_getR F dX10_tenfold_14 gr_X10_7 (by assumption) (by assumption) ?_
        refine z_bipush (v := nI 16) F dX10_tenfold_17 (by decide) ?_
        refine z_iload_n F dX10_tenfold_19 rfl ?_
        refine z_imul F dX10_tenfold_20 ?_
        refine z_iload_n F dX10_tenfold_21 rfl ?_
        refine z_iadd F dX10_tenfold_22 ?_
        refine z_ti (ixw s k) ?_
        refine z_iald F dX10_tenfold_23 (by assumption) (hR.inw hs hk16) ?_
        refine z_ti rd ?_
        refine z_i2l F dX10_tenfold_24 ?_
        refine z_tl (nI_l (by omega)) ?_
        refine z_lmul F dX10_tenfold_25 ?_
        refine z_tl (lN_mul _ _) ?_
        refine z_iload_n F dX10_tenfold_26 rfl ?_
        refine z_i2l F dX10_tenfold_27 ?_
        refine z_tl (nI_l (by omega)) ?_
        refine z_ladd F dX10_tenfold_28 ?_
        refine z_tl (lN_add _ _) ?_
        rw [← hv]
        refine z_lstore_4 F dX10_tenfold_29 rfl ?_
        refine z_aload_n F dX10_tenfold_31 rfl ?_
        refine z_getR F dX10_tenfold_32 gr_X10_7 (by assumption) (by assumption) ?_
        refine z_bipush (v := nI 16) F dX10_tenfold_35 (by decide) ?_
        refine z_iload_n F dX10_tenfold_37 rfl ?_
        refine z_imul F dX10_tenfold_38 ?_
        refine z_iload_n F dX10_tenfold_39 rfl ?_
        refine z_iadd F dX10_tenfold_40 ?_
        refine z_ti (ixw s k) ?_
        refine z_lload F dX10_tenfold_41 rfl ?_
        refine z_ldc2 (v := 268435455) F dX10_tenfold_43 cn_X10_58 ?_
        refine z_land F dX10_tenfold_46 ?_
        refine z_tl (land28 (by omega)) ?_
        refine z_l2i F dX10_tenfold_47 ?_
        refine z_ti (lN_i _) ?_
        refine z_iast F dX10_tenfold_48 (by assumption) (hR.inw hs hk16) ?_
        refine z_V (show _ = sA V (a 1) (upd g (16 * s + k) (nI (v % 268435456))) by rw [clw hs hk16, vA_sA_self, sA_sA]) ?_
        refine z_lload F dX10_tenfold_49 rfl ?_
        refine z_bipush (v := nI 28) F dX10_tenfold_51 (by decide) ?_
        refine z_lshr F dX10_tenfold_53 ?_
        refine z_tl (lN_shr hvl (by decide)) ?_
        refine z_l2i F dX10_tenfold_54 ?_
        refine z_ti (lN_i _) ?_
        refine z_istore_n_2 F dX10_tenfold_55 rfl ?_
        refine z_iinc_3 F dX10_tenfold_56 rfl ?_
        refine z_goto (tgt := 4) F dX10_tenfold_59 (by decide) ?_
        rw [show nI k + Int32.ofInt 1 = nI (k + 1) from nI_1 k]
        exact ih (k + 1) (v / 268435456) _ _ (by omega) a2.symm hv1 (hq.step hk16 (by rw [a1]))
  refine z_iconst (v := nI 0) F dX10_tenfold_0 (by decide) ?_
  refine z_istore_n_2 F dX10_tenfold_1 rfl ?_
  refine z_iconst (v := nI 0) F dX10_tenfold_2 (by decide) ?_
  refine z_istore_n_3 F dX10_tenfold_3 rfl ?_
  refine z_V (sA_id V (a 1)).symm ?_
  exact loop 16 0 0 _ _ rfl (by rw [Nat.pow_zero, Nat.mod_one]) (by decide) (mQ.zero hG)
theorem rest_dg (x p k : Nat) : (x / 268435456 ^ (k + 1) % p * 268435456 + dg x k) % p = x / 268435456 ^ k % p := by
  rw [div_dg x k, Nat.add_mod, Nat.mul_mod, Nat.mod_mod, ← Nat.mul_mod, ← Nat.add_mod]
theorem quot_key {p q d : Nat} (hp : 0 < p) (hd : d < 268435456) : (q % p * 268435456 + d) / p = (q * 268435456 + d) / p % 268435456 := by
  have e3 : q * 268435456 + d = p * (q / p * 268435456) + (q % p * 268435456 + d) := by
    conv => lhs; rw [← Nat.div_add_mod q p]
    rw [Nat.add_mul, Nat.mul_assoc]
    omega
  rw [e3, Nat.mul_add_div hp, Nat.add_comm (q / p * 268435456), Nat.add_mul_mod_self_right]
  refine (Nat.mod_eq_of_lt ?_).symm
  rw [Nat.div_lt_iff_lt_mul hp]
  have := Nat.mod_lt q hp
  have h2 : (q % p + 1) * 268435456 ≤ p * 268435456 := Nat.mul_le_mul_right _ this
  rw [Nat.mul_comm 268435456 p]
  omega
theorem quot_dg {x p k : Nat} (hp : 0 < p) : (x / 268435456 ^ (k + 1) % p * 268435456 + dg x k) / p = dg (x / p) k := by
  have e : x / p / 268435456 ^ k = x / 268435456 ^ k / p := by rw [Nat.div_div_eq_div_mul, Nat.mul_comm, ← Nat.div_div_eq_div_mul]
  show _ = x / p / 268435456 ^ k % 268435456
  rw [e, div_dg x k]
  exact quot_key hp (dg_lt x k)
theorem lshl28 (v : Nat) : lN v <<< ((nI 28).toInt64 &&& 63) = lN (v * 268435456) := lN_shlk v (by decide)
set_option maxRecDepth 100000 in
theorem m_restBy {p : Nat} (hR : mR Z a) (hG : mG (vA V (a 1)) L) (hs : s < 240) (hp0 : 0 < p) (hp : p < 2147483648) : zCt Γ mX10_restBy 0 0 0 0 [.ref (a 0), .int (nI s), .int (nI p)] (Z, V) (pI (q0 Z V (nI (L s % p)))) := by
  refine zCt.of [some (.ref (a 0)), some (.int (nI s)), some (.int (nI p)), none, none, none] pn_X10_restBy rfl (Nat.le_of_ble_eq_true rfl) rfl (fun κ F => ?_)
  obtain ⟨b0, b1, -⟩ := hR.1
  obtain ⟨d1, d2, -⟩ := hR.2.1
  have hp64 : (nI p).toInt64 = lN p := nI_l (by omega)
  have hpne : ¬ lN p = 0 := fun z => absurd ((pk_lEQ (a := p) (b := 0) (by omega) (by decide)).mp z) (by omega)
  generalize hQ : zQ Γ κ (pI (q0 Z V (nI (L s % p)))) 0 0 = Q
  have loop : ∀ k, k ≤ 16 → zX Γ κ (Z, V) 0 0 Q 6 [some (.ref (a 0)), some (.int (nI s)), some (.int (nI p)), some (.long (lN (L s / 268435456 ^ k % p))), none, some (.int (nI k - nI 1))] [] := by
    intro k
    induction k with
    | zero =>
      intro hk
      refine z_iload F dX10_restBy_6 rfl ?_
      refine z_if_lt (tgt := 39) F dX10_restBy_8 (by decide) (fun c1 => ?_) (fun c1 => ?_)
      · subst hQ
        refine z_lload_n F dX10_restBy_39 rfl ?_
        refine z_l2i F dX10_restBy_40 ?_
        refine z_ti (lN_i _) ?_
        exact z_iret F dX10_restBy_41 rfl ⟨by rw [Nat.pow_zero, Nat.div_one], rfl⟩
      · exact absurd nI_0m1 c1
    | succ k ih =>
      intro hk
      rw [nI_km1]
      have rd : vA V (a 1) (nI (16 * s + k)).toNatClampNeg = nI (dg (L s) k) := by rw [clw hs (by omega)]; exact hG.1 s k hs (by omega)
      have l1 := dg_lt (L s) k
      have l2 := Nat.mod_lt (L s / 268435456 ^ (k + 1)) hp0
      refine z_iload F dX10_restBy_6 rfl ?_
      refine z_if_lt (tgt := 39) F dX10_restBy_8 (by decide) (fun c1 => ?_) (fun c1 => ?_)
      · exact absurd c1 (nI_pos (by omega))
      · refine z_lload_n F dX10_restBy_11 rfl ?_
        refine z_bipush (v := nI 28) F dX10_restBy_12 (by decide) ?_
        refine z_lshl F dX10_restBy_14 ?_
        refine z_tl (lshl28 _) ?_
        refine z_aload_n F dX10_restBy_15 rfl ?_
        refine z_getR F dX10_restBy_16 gr_X10_7 (by assumption) (by assumption) ?_
        refine z_bipush (v := nI 16) F dX10_restBy_19 (by decide) ?_
        refine z_iload_n F dX10_restBy_21 rfl ?_
        refine z_imul F dX10_restBy_22 ?_
        refine z_iload F dX10_restBy_23 rfl ?_
        refine z_iadd F dX10_restBy_25 ?_
        refine z_ti (ixw s k) ?_
        refine z_iald F dX10_restBy_26 (by assumption) (hR.inw hs (by omega)) ?_
        refine z_ti rd ?_
        refine z_i2l F dX10_restBy_27 ?_
        refine z_tl (nI_l (by omega)) ?_
        refine z_ladd F dX10_restBy_28 ?_
        refine z_tl (lN_add _ _) ?_
        refine z_iload_n F dX10_restBy_29 rfl ?_
        refine z_i2l F dX10_restBy_30 ?_
        refine z_tl hp64 ?_
        refine z_lrem F dX10_restBy_31 hpne ?_
        refine z_tl (pk_lRem (by omega) hp0 (by omega)) ?_
        rw [rest_dg]
        refine z_lstore_n_3 F dX10_restBy_32 rfl ?_
        refine z_iinc_5 F dX10_restBy_33 rfl ?_
        refine z_goto (tgt := 6) F dX10_restBy_36 (by decide) ?_
        rw [nI_m1]
        exact ih (by omega)
  refine z_lconst (v := lN 0) F dX10_restBy_0 (by decide) ?_
  refine z_lstore_n_3 F dX10_restBy_1 rfl ?_
  refine z_bipush (v := nI 15) F dX10_restBy_2 (by decide) ?_
  refine z_istore_5 F dX10_restBy_4 rfl ?_
  have e0 : lN 0 = lN (L s / 268435456 ^ 16 % p) := by rw [Nat.div_eq_of_lt (hG.2 s hs), Nat.zero_mod]
  rw [e0]
  exact loop 16 (Nat.le_refl _)
/-- but that the digits of slot c from k on are those of x -/
def mT (g : Nat → Int32) (L : Nat → Nat) (c k x : Nat) : Prop := (∀ s j, s < 240 → j < 16 → s ≠ c ∨ j < k → g (16 * s + j) = nI (dg (L s) j)) ∧ ∀ j, k ≤ j → j < 16 → g (16 * c + j) = nI (dg x j)
theorem mT.step {g : Nat → Int32} {k x : Nat} {v : Int32} (h : mT g L c (k + 1) x) (hk : k < 16) (hv : v = nI (dg x k)) : mT (upd g (16 * c + k) v) L c k x := by
  refine ⟨fun s j hs hj hsj => ?_, fun j hj hj2 => ?_⟩
  · rw [pk_un (by omega)]
    exact h.1 s j hs hj (by omega)
  · by_cases e : j = k
    · subst e; rw [pk_us, hv]
    · rw [pk_un (by omega)]; exact h.2 j (by omega) hj2
theorem mT.done {g : Nat → Int32} {x : Nat} (h : mT g L c 0 x) (hL : ∀ s, s < 240 → L s < 268435456 ^ 16) (hx : x < 268435456 ^ 16) : mG g (va_up L c x) := by
  refine ⟨fun s j hs hj => ?_, fun s hs => ?_⟩
  · by_cases e : s = c
    · subst e
      rw [up_self]; exact h.2 j (Nat.zero_le _) hj
    · rw [up_ne _ _ e]; exact h.1 s j hs hj (Or.inl e)
  · by_cases e : s = c
    · rw [e, up_self]; exact hx
    · rw [up_ne _ _ e]; exact hL s hs
set_option maxRecDepth 100000 in
theorem m_tenth (hR : mR Z a) (hG : mG (vA V (a 1)) L) (hs : s < 240) : zCt Γ mX10_tenth 0 0 0 0 [.ref (a 0), .int (nI s)] (Z, V) (pI (fun r S' => r = nI (L s % 10) ∧ mP Z V (a 1) (va_up L s (L s / 10)) S')) := by
  refine zCt.of [some (.ref (a 0)), some (.int (nI s)), none, none, none, none, none] pn_X10_tenth rfl (Nat.le_of_ble_eq_true rfl) rfl (fun κ F => ?_)
  obtain ⟨b0, b1, -⟩ := hR.1
  obtain ⟨d1, d2, -⟩ := hR.2.1
  have tne : ¬ lN 10 = 0 := by decide
  generalize hQ : zQ Γ κ (pI (fun r S' => r = nI (L s % 10) ∧ mP Z V (a 1) (va_up L s (L s / 10)) S')) 0 0 = Q
  have hx10 : L s / 10 < 268435456 ^ 16 := Nat.lt_of_le_of_lt (Nat.div_le_self _ _) (hG.2 s hs)
  have loop : ∀ (k : Nat) (g : Nat → Int32) (l5 : Option Value), k ≤ 16 → mT g L s k (L s / 10) → zX Γ κ (Z, sA V (a 1) g) 0 0 Q 6 [some (.ref (a 0)), some (.int (nI s)), some (.long (lN (L s / 268435456 ^ k % 10))), none, some (.int (nI k - nI 1)), l5, none] [] := by
    intro k
    induction k with
    | zero =>
      intro g l5 hk hq
      refine z_iload F dX10_tenth_6 rfl ?_
      refine z_if_lt (tgt := 63) F dX10_tenth_8 (by decide) (fun c1 => ?_) (fun c1 => ?_)
      · subst hQ
        refine z_lload_n F dX10_tenth_63 rfl ?_
        refine z_l2i F dX10_tenth_64 ?_
        refine z_ti (lN_i _) ?_
        exact z_iret F dX10_tenth_65 rfl ⟨by rw [Nat.pow_zero, Nat.div_one], mP.of (hq.done hG.2 hx10)⟩
      · exact absurd nI_0m1 c1
    | succ k ih =>
      intro g l5 hk hq
      rw [nI_km1]
      have hk16 : k < 16 := by omega
      have rd : vA (sA V (a 1) g) (a 1) (nI (16 * s + k)).toNatClampNeg = nI (dg (L s) k) := by rw [vA_sA_self, clw hs hk16]; exact hq.1 s k hs hk16 (by omega)
      have l1 := dg_lt (L s) k
      have l2 := Nat.mod_lt (L s / 268435456 ^ (k + 1)) (show 0 < 10 by decide)
      refine z_iload F dX10_tenth_6 rfl ?_
      refine z_if_lt (tgt := 63) F dX10_tenth_8 (by decide) (fun c1 => ?_) (fun c1 => ?_)
      · exact absurd c1 (nI_pos (by omega))
      · refine z_lload_n F dX10_tenth_11 rfl ?_
        refine z_bipush (v := nI 28) F dX10_tenth_12 (by decide) ?_
        refine z_lshl F dX10_tenth_14 ?_
        refine z_tl (lshl28 _) ?_
        refine z_aload_n F dX10_tenth_15 rfl ?_
        refine z_getR F dX10_tenth_16 gr_X10_7 (by assumption) (by assumption) ?_
        refine z_bipush (v := nI 16) F dX10_tenth_19 (by decide) ?_
        refine z_iload_n F dX10_tenth_21 rfl ?_
        refine z_imul F dX10_tenth_22 ?_
        refine z_iload F dX10_tenth_23 rfl ?_
        refine z_iadd F dX10_tenth_25 ?_
        refine z_ti (ixw s k) ?_
        refine z_iald F dX10_tenth_26 (by assumption) (hR.inw hs hk16) ?_
        refine z_ti rd ?_
        refine z_i2l F dX10_tenth_27 ?_
        refine z_tl (nI_l (by omega)) ?_
        refine z_ladd F dX10_tenth_28 ?_
        refine z_tl (lN_add _ _) ?_
        refine z_lstore_5 F dX10_tenth_29 rfl ?_
        refine z_aload_n F dX10_tenth_31 rfl ?_
        refine z_getR F dX10_tenth_32 gr_X10_7 (by assumption) (by assumption) ?_
        refine z_bipush (v := nI 16) F dX10_tenth_35 (by decide) ?_
        refine z_iload_n F dX10_tenth_37 rfl ?_
        refine z_imul F dX10_tenth_38 ?_
        refine z_iload F dX10_tenth_39 rfl ?_
        refine z_iadd F dX10_tenth_41 ?_
        refine z_ti (ixw s k) ?_
        refine z_lload F dX10_tenth_42 rfl ?_
        refine z_ldc2 (v := 10) F dX10_tenth_44 cn_X10_225 ?_
        refine z_tl (show (10 : Int64) = lN 10 from rfl) ?_
        refine z_ldiv F dX10_tenth_47 tne ?_
        refine z_tl (pk_lDiv (by omega) (by decide) (by decide)) ?_
        refine z_l2i F dX10_tenth_48 ?_
        refine z_ti (lN_i _) ?_
        refine z_iast F dX10_tenth_49 (by assumption) (hR.inw hs hk16) ?_
        refine z_V (show _ = sA V (a 1) (upd g (16 * s + k) (nI ((L s / 268435456 ^ (k + 1) % 10 * 268435456 + dg (L s) k) / 10))) by rw [clw hs hk16, vA_sA_self, sA_sA]) ?_
        refine z_lload F dX10_tenth_50 rfl ?_
        refine z_ldc2 (v := 10) F dX10_tenth_52 cn_X10_225 ?_
        refine z_tl (show (10 : Int64) = lN 10 from rfl) ?_
        refine z_lrem F dX10_tenth_55 tne ?_
        refine z_tl (pk_lRem (by omega) (by decide) (by decide)) ?_
        rw [rest_dg]
        refine z_lstore_n_2 F dX10_tenth_56 rfl ?_
        refine z_iinc_4 F dX10_tenth_57 rfl ?_
        refine z_goto (tgt := 6) F dX10_tenth_60 (by decide) ?_
        rw [nI_m1]
        exact ih _ _ (by omega) (hq.step hk16 (by rw [quot_dg (by decide)]))
  refine z_lconst (v := lN 0) F dX10_tenth_0 (by decide) ?_
  refine z_lstore_n_2 F dX10_tenth_1 rfl ?_
  refine z_bipush (v := nI 15) F dX10_tenth_2 (by decide) ?_
  refine z_istore_4 F dX10_tenth_4 rfl ?_
  have e0 : lN 0 = lN (L s / 268435456 ^ 16 % 10) := by rw [Nat.div_eq_of_lt (hG.2 s hs)]
  rw [e0]
  refine z_V (sA_id V (a 1)).symm ?_
  exact loop 16 _ _ (Nat.le_refl _) ⟨fun s' j h1 h2 _ => hG.1 s' j h1 h2, fun j h1 h2 => absurd h1 (by omega)⟩
theorem bl_half {v : Nat} (h : 0 < v) : bl v = bl (v / 2) + 1 := by
  have h1 : ∀ n, bl v ≤ n + 1 ↔ bl (v / 2) ≤ n := fun n => by
    rw [bl_le, bl_le, Nat.pow_succ]
    omega
  have h2 : ¬ bl v ≤ 0 := fun z => by rw [bl_le] at z; omega
  have h3 := (h1 (bl (v / 2))).mpr (Nat.le_refl _)
  have h4 := (h1 (bl v - 1)).mp (by omega)
  omega
theorem bl_zero : bl 0 = 0 := rfl
theorem bl_shift {x : Nat} : ∀ (k : Nat), 0 < x / 2 ^ k → bl x = k + bl (x / 2 ^ k)
  | 0, _ => by rw [Nat.pow_zero, Nat.div_one, Nat.zero_add]
  | k + 1, h => by
    have e : x / 2 ^ (k + 1) = x / 2 ^ k / 2 := by rw [Nat.pow_succ, Nat.div_div_eq_div_mul]
    have h1 : 0 < x / 2 ^ k := by rw [e] at h; omega
    rw [bl_shift k h1, bl_half h1, e]
    omega
set_option maxRecDepth 100000 in
theorem m_bitsOf (hR : mR Z a) (hG : mG (vA V (a 1)) L) (hs : s < 240) : zCt Γ mX10_bitsOf 1 22 0 0 [.ref (a 0), .int (nI s)] (Z, V) (pI (q0 Z V (nI (bl (L s))))) := by
  refine zCt.of [some (.ref (a 0)), some (.int (nI s)), none, none, none] pn_X10_bitsOf rfl (Nat.le_of_ble_eq_true rfl) rfl (fun κ F => ?_)
  obtain ⟨b0, b1, -⟩ := hR.1
  obtain ⟨d1, d2, -⟩ := hR.2.1
  refine z_aload_n F dX10_bitsOf_0 rfl ?_
  refine z_iload_n F dX10_bitsOf_1 rfl ?_
  refine z_cVi F (m_topOf hR hG hs) dX10_bitsOf_2 ml_X10_60 ok_X10_topOf b0 (by decide) rfl rfl rfl (Nat.le_of_ble_eq_true rfl) (by decide) (by decide) (fun r S' hr => ?_)
  obtain ⟨rfl, tp, rfl, htp, hx, hge⟩ := hr
  generalize hQ : zQ Γ κ (pI (q0 Z V (nI (bl (L s))))) 0 0 = Q
  have loop : ∀ (f v m : Nat), v < 2 ^ f → v < 268435456 → m + bl v = bl (L s) → zX Γ κ (Z, V) 0 0 Q 44 [some (.ref (a 0)), some (.int (nI s)), some (.int (nI tp)), some (.int (nI m)), some (.int (nI v))] [] := by
    intro f
    induction f with
    | zero =>
      intro v m hf hv hm
      have h0 : v = 0 := by omega
      subst h0
      refine z_iload F dX10_bitsOf_44 rfl ?_
      refine z_if_le (tgt := 61) F dX10_bitsOf_46 (by decide) (fun c1 => ?_) (fun c1 => ?_)
      · rw [bl_zero, Nat.add_zero] at hm
        subst hQ
        refine z_iload_n F dX10_bitsOf_61 rfl ?_
        exact z_iret F dX10_bitsOf_62 rfl ⟨by rw [hm], rfl⟩
      · exact absurd (show nI 0 ≤ 0 by decide) c1
    | succ f ih =>
      intro v m hf hv hm
      rw [Nat.pow_succ] at hf
      refine z_iload F dX10_bitsOf_44 rfl ?_
      refine z_if_le (tgt := 61) F dX10_bitsOf_46 (by decide) (fun c1 => ?_) (fun c1 => ?_)
      · have h0 : v = 0 := (nI_le0 (by omega)).mp c1
        rw [h0, bl_zero, Nat.add_zero] at hm
        subst hQ
        refine z_iload_n F dX10_bitsOf_61 rfl ?_
        exact z_iret F dX10_bitsOf_62 rfl ⟨by rw [hm], rfl⟩
      · have h0 : 0 < v := by
          rcases Nat.eq_zero_or_pos v with z | z
          · exact absurd ((nI_le0 (by omega)).mpr z) c1
          · exact z
        refine z_iload F dX10_bitsOf_49 rfl ?_
        refine z_iconst (v := nI 1) F dX10_bitsOf_51 (by decide) ?_
        refine z_ishr F dX10_bitsOf_52 ?_
        refine z_ti (shr1 (by omega)) ?_
        refine z_istore_4 F dX10_bitsOf_53 rfl ?_
        refine z_iinc_3 F dX10_bitsOf_55 rfl ?_
        refine z_goto (tgt := 44) F dX10_bitsOf_58 (by decide) ?_
        rw [show nI m + Int32.ofInt 1 = nI (m + 1) from nI_1 m]
        refine ih (v / 2) (m + 1) (by omega) (by omega) ?_
        rw [← hm, bl_half h0]
        omega
  refine z_istore_n_2 F dX10_bitsOf_5 rfl ?_
  refine z_iload_n F dX10_bitsOf_6 rfl ?_
  refine z_if_ne (tgt := 14) F dX10_bitsOf_7 (by decide) (fun c => ?_) (fun c => ?_)
  · have h0 : ¬ tp = 0 := fun z => c ((nI_ne0' (by omega)).mpr z)
    obtain ⟨k, rfl⟩ : ∃ k, tp = k + 1 := ⟨tp - 1, by omega⟩
    have hk16 : k < 16 := by omega
    have rd : vA V (a 1) (nI (16 * s + k)).toNatClampNeg = nI (dg (L s) k) := by rw [clw hs hk16]; exact hG.1 s k hs hk16
    have ix : nI 16 * nI s + nI (k + 1) - nI 1 = nI (16 * s + k) := by rw [ixw, pk_sub (by omega)]; rfl
    have hd : dg (L s) k = L s / 268435456 ^ k := Nat.mod_eq_of_lt (divlt hx)
    have hpos : 0 < L s / 268435456 ^ k := Nat.div_pos (hge (by omega)) (dgp k)
    have e28 : 268435456 ^ k = 2 ^ (28 * k) := by rw [Nat.pow_mul]
    refine z_bipush (v := nI 28) F dX10_bitsOf_14 (by decide) ?_
    refine z_iload_n F dX10_bitsOf_16 rfl ?_
    refine z_iconst (v := nI 1) F dX10_bitsOf_17 (by decide) ?_
    refine z_isub F dX10_bitsOf_18 ?_
    refine z_ti (nI_km1 k) ?_
    refine z_imul F dX10_bitsOf_19 ?_
    refine z_ti (pk_mul _ _) ?_
    refine z_istore_n_3 F dX10_bitsOf_20 rfl ?_
    refine z_iload_n F dX10_bitsOf_21 rfl ?_
    refine z_if_ne (tgt := 29) F dX10_bitsOf_22 (by decide) (fun c2 => ?_) (fun c2 => ?_)
    · refine z_aload_n F dX10_bitsOf_29 rfl ?_
      refine z_getR F dX10_bitsOf_30 gr_X10_7 (by assumption) (by assumption) ?_
      refine z_bipush (v := nI 16) F dX10_bitsOf_33 (by decide) ?_
      refine z_iload_n F dX10_bitsOf_35 rfl ?_
      refine z_imul F dX10_bitsOf_36 ?_
      refine z_iload_n F dX10_bitsOf_37 rfl ?_
      refine z_iadd F dX10_bitsOf_38 ?_
      refine z_iconst (v := nI 1) F dX10_bitsOf_39 (by decide) ?_
      refine z_isub F dX10_bitsOf_40 ?_
      refine z_ti ix ?_
      refine z_iald F dX10_bitsOf_41 (by assumption) (hR.inw hs hk16) ?_
      refine z_ti rd ?_
      refine z_istore_4 F dX10_bitsOf_42 rfl ?_
      refine loop 28 (dg (L s) k) (28 * k) (dg_lt _ _) (dg_lt _ _) ?_
      rw [hd, e28]
      exact (bl_shift (28 * k) (by rw [← e28]; exact hpos)).symm
    · exact absurd ((nI_ne0' (by omega)).mp c2) (by omega)
  · have h0 : tp = 0 := (nI_ne0' (by omega)).mp c
    subst h0
    have hz : L s = 0 := by rw [Nat.pow_zero] at hx; omega
    refine z_iconst (v := nI 0) F dX10_bitsOf_10 (by decide) ?_
    refine z_goto (tgt := 20) F dX10_bitsOf_11 (by decide) ?_
    refine z_istore_n_3 F dX10_bitsOf_20 rfl ?_
    refine z_iload_n F dX10_bitsOf_21 rfl ?_
    refine z_if_ne (tgt := 29) F dX10_bitsOf_22 (by decide) (fun c2 => ?_) (fun c2 => ?_)
    · exact absurd rfl c2
    · refine z_iconst (v := nI 0) F dX10_bitsOf_25 (by decide) ?_
      refine z_goto (tgt := 42) F dX10_bitsOf_26 (by decide) ?_
      refine z_istore_4 F dX10_bitsOf_42 rfl ?_
      exact loop 0 0 0 (by decide) (by decide) (by rw [hz, Nat.zero_add])
end MOD4
