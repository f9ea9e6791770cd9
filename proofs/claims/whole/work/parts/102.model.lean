/-! ===== FractionRowsModel: plus, minus, bitAt, setLong ===== -/
theorem and28 {v : Nat} (h : v < 4294967296) : nI v &&& 268435455 = nI (v % 268435456) := pk_andN (k := 28) (by omega) (by decide)
theorem shr28 {v : Nat} (h : v < 2147483648) : nI v >>> (nI 28 &&& 31) = nI (v / 268435456) := pk_shrN (by omega) _ 28 (by decide)
theorem land28 {v : Nat} (h : v < 18446744073709551616) : lN v &&& 268435455 = lN (v % 268435456) := g_mask (s := 28) (p := 268435456) (by decide) (by decide) (by omega)
theorem lN_shr {v k : Nat} (hv : v < 9223372036854775808) (hk : k < 64) : lN v >>> ((nI k).toInt64 &&& 63) = lN (v / 2 ^ k) := by
  rw [wb_c k hk]
  apply Int64.toInt_inj.mp
  have e : (lN v >>> lN k).toInt = (lN v).toInt >>> k := by
    show ((lN v).toBitVec.sshiftRight ((lN k).toBitVec.smod 64).toNat).toInt = _
    rw [wb_tb k, wb_sm k hk]
    rw [show (BitVec.ofNat 64 k).toNat = k from Nat.mod_eq_of_lt (by omega)]
    exact BitVec.toInt_sshiftRight ..
  rw [e, Int.shiftRight_eq_div_pow, pk_lT (by omega), pk_lT (Nat.lt_of_le_of_lt (Nat.div_le_self _ _) (by omega))]
  exact (Int.natCast_ediv v (2 ^ k)).symm
section MOD2
variable {Γ : Gm} {Z : Hz} {V : Hv} {a : Nat → Nat} {L : Nat → Nat} {s t c : Nat}
set_option maxRecDepth 100000 in
theorem m_plus (hR : mR Z a) (hG : mG (vA V (a 1)) L) (hs : s < 240) (ht : t < 240) (hc : c < 240) (hb : L s + L t < 268435456 ^ 16) : zCt Γ mX10_plus 0 0 0 0 [.ref (a 0), .int (nI s), .int (nI t), .int (nI c)] (Z, V) (pV (mP Z V (a 1) (va_up L c (L s + L t)))) := by
  refine zCt.of [some (.ref (a 0)), some (.int (nI s)), some (.int (nI t)), some (.int (nI c)), none, none, none] pn_X10_plus rfl (Nat.le_of_ble_eq_true rfl) rfl (fun κ F => ?_)
  obtain ⟨b0, b1, -⟩ := hR.1
  obtain ⟨d1, d2, -⟩ := hR.2.1
  generalize hQ : zQ Γ κ (pV (mP Z V (a 1) (va_up L c (L s + L t)))) 0 0 = Q
  have loop : ∀ (d k ov : Nat) (g : Nat → Int32) (l6 : Option Value), k + d = 16 → ov = (L s % 268435456 ^ k + L t % 268435456 ^ k) / 268435456 ^ k → ov ≤ 1 → mQ g L c k (L s + L t) → zX Γ κ (Z, sA V (a 1) g) 0 0 Q 6 [some (.ref (a 0)), some (.int (nI s)), some (.int (nI t)), some (.int (nI c)), some (.int (nI ov)), some (.int (nI k)), l6] [] := by
    intro d
    induction d with
    | zero =>
      intro k ov g l6 hk hov hov1 hq
      have hfin := hq.done hG.2 hb (fun j h1 h2 => absurd h1 (by omega))
      refine z_iload F dX10_plus_6 rfl ?_
      refine z_bipush (v := nI 16) F dX10_plus_8 (by decide) ?_
      refine z_icmp_ge (tgt := 73) F dX10_plus_10 (by decide) (fun c1 => ?_) (fun c1 => ?_)
      · subst hQ
        exact z_vret F dX10_plus_73 rfl (mP.of hfin)
      · exact absurd (nI_le (a := 16) (by omega) (by omega)) c1
    | succ d ih =>
      intro k ov g l6 hk hov hov1 hq
      have hk16 : k < 16 := by omega
      have rs : vA (sA V (a 1) g) (a 1) (nI (16 * s + k)).toNatClampNeg = nI (dg (L s) k) := by rw [vA_sA_self, clw hs hk16]; exact hq.1 s k hs hk16 (Or.inr (Nat.le_refl k))
      have rt : vA (sA V (a 1) g) (a 1) (nI (16 * t + k)).toNatClampNeg = nI (dg (L t) k) := by rw [vA_sA_self, clw ht hk16]; exact hq.1 t k ht hk16 (Or.inr (Nat.le_refl k))
      obtain ⟨a1, a2⟩ := add_dg (L s) (L t) k
      rw [← hov] at a1 a2
      have l1 := dg_lt (L s) k
      have l2 := dg_lt (L t) k
      obtain ⟨v, hv⟩ : ∃ v, v = dg (L s) k + dg (L t) k + ov := ⟨_, rfl⟩
      rw [← hv] at a1 a2
      have hvl : v < 2147483648 := by omega
      have hv2 : v / 268435456 ≤ 1 := by omega
      refine z_iload F dX10_plus_6 rfl ?_
      refine z_bipush (v := nI 16) F dX10_plus_8 (by decide) ?_
      refine z_icmp_ge (tgt := 73) F dX10_plus_10 (by decide) (fun c1 => ?_) (fun c1 => ?_)
      · exact absurd ((nI_leI (a := 16) (by omega) (by omega)).mp c1) (by omega)
      · refine z_aload_n F dX10_plus_13 rfl ?_
        refine z_getR F dX10_plus_14 gr_X10_7 (by assumption) (by assumption) ?_
        refine z_bipush (v := nI 16) F dX10_plus_17 (by decide) ?_
        refine z_iload_n F dX10_plus_19 rfl ?_
        refine z_imul F dX10_plus_20 ?_
        refine z_iload F dX10_plus_21 rfl ?_
        refine z_iadd F dX10_plus_23 ?_
        refine z_ti (ixw s k) ?_
        refine z_iald F dX10_plus_24 (by assumption) (hR.inw hs hk16) ?_
        refine z_ti rs ?_
        refine z_aload_n F dX10_plus_25 rfl ?_
        refine z_getR F dX10_plus_26 gr_X10_7 (by assumption) (by assumption) ?_
        refine z_bipush (v := nI 16) F dX10_plus_29 (by decide) ?_
        refine z_iload_n F dX10_plus_31 rfl ?_
        refine z_imul F dX10_plus_32 ?_
        refine z_iload F dX10_plus_33 rfl ?_
        refine z_iadd F dX10_plus_35 ?_
        refine z_ti (ixw t k) ?_
        refine z_iald F dX10_plus_36 (by assumption) (hR.inw ht hk16) ?_
        refine z_ti rt ?_
        refine z_iadd F dX10_plus_37 ?_
        refine z_ti (nI_add _ _) ?_
        refine z_iload F dX10_plus_38 rfl ?_
        refine z_iadd F dX10_plus_40 ?_
        refine z_ti (nI_add _ _) ?_
        rw [← hv]
        refine z_istore_6 F dX10_plus_41 rfl ?_
        refine z_aload_n F dX10_plus_43 rfl ?_
        refine z_getR F dX10_plus_44 gr_X10_7 (by assumption) (by assumption) ?_
        refine z_bipush (v := nI 16) F dX10_plus_47 (by decide) ?_
        refine z_iload_n F dX10_plus_49 rfl ?_
        refine z_imul F dX10_plus_50 ?_
        refine z_iload F dX10_plus_51 rfl ?_
        refine z_iadd F dX10_plus_53 ?_
        refine z_ti (ixw c k) ?_
        refine z_iload F dX10_plus_54 rfl ?_
        refine z_ldc (v := 268435455) F dX10_plus_56 cn_X10_64 ?_
        refine z_iand F dX10_plus_58 ?_
        refine z_ti (and28 (by omega)) ?_
        refine z_iast F dX10_plus_59 (by assumption) (hR.inw hc hk16) ?_
        refine z_V (show _ = sA V (a 1) (upd g (16 * c + k) (nI (v % 268435456))) by rw [clw hc hk16, vA_sA_self, sA_sA]) ?_
        refine z_iload F dX10_plus_60 rfl ?_
        refine z_bipush (v := nI 28) F dX10_plus_62 (by decide) ?_
        refine z_ishr F dX10_plus_64 ?_
        refine z_ti (shr28 hvl) ?_
        refine z_istore_4 F dX10_plus_65 rfl ?_
        refine z_iinc_5 F dX10_plus_67 rfl ?_
        refine z_goto (tgt := 6) F dX10_plus_70 (by decide) ?_
        rw [show nI k + Int32.ofInt 1 = nI (k + 1) from nI_1 k]
        exact ih (k + 1) (v / 268435456) _ _ (by omega) a2.symm hv2 (hq.step hk16 (by rw [a1]))
  refine z_iconst (v := nI 0) F dX10_plus_0 (by decide) ?_
  refine z_istore_4 F dX10_plus_1 rfl ?_
  refine z_iconst (v := nI 0) F dX10_plus_3 (by decide) ?_
  refine z_istore_5 F dX10_plus_4 rfl ?_
  refine z_V (sA_id V (a 1)).symm ?_
  exact loop 16 0 0 _ _ rfl (by rw [Nat.pow_zero, Nat.mod_one, Nat.mod_one]) (by decide) (mQ.zero hG)
theorem sub_int {x y c : Nat} (hx : x < 268435456) (hy : y < 268435456) (hc : c ≤ 1) : (nI x - nI y - nI c < 0 ↔ x < y + c) ∧ (nI x - nI y - nI c) &&& 268435455 = nI ((x + 268435456 - y - c) % 268435456) := by
  have e : nI x - nI y - nI c = nI x - nI (y + c) := by
    rw [← nI_add, Int32.sub_eq_add_neg, Int32.sub_eq_add_neg, Int32.sub_eq_add_neg, Int32.neg_add, Int32.sub_eq_add_neg, Int32.add_assoc]
  rw [e]
  constructor
  · rw [Int32.lt_iff_toInt_lt, pk_sub_toInt (by omega) (by omega)]
    show _ < (0 : Int) ↔ _
    omega
  · have e2 : nI x - nI (y + c) = nI ((x + 4294967296 - (y + c)) % 4294967296) := by
      rw [← nI_mod, ← pk_sub (show y + c ≤ x + 4294967296 by omega), nI_mod (x + 4294967296), show (x + 4294967296) % 4294967296 = x by omega]
    rw [e2, and28 (Nat.mod_lt _ (by decide))]
    congr 1
    omega
set_option maxRecDepth 100000 in
theorem m_minus (hR : mR Z a) (hG : mG (vA V (a 1)) L) (hs : s < 240) (ht : t < 240) (hne : t ≠ s) (hb : L t ≤ L s) : zCt Γ mX10_minus 1 22 0 0 [.ref (a 0), .int (nI s), .int (nI t)] (Z, V) (pV (mP Z V (a 1) (va_up L s (L s - L t)))) := by
  refine zCt.of [some (.ref (a 0)), some (.int (nI s)), some (.int (nI t)), none, none, none, none] pn_X10_minus rfl (Nat.le_of_ble_eq_true rfl) rfl (fun κ F => ?_)
  obtain ⟨b0, b1, -⟩ := hR.1
  obtain ⟨d1, d2, -⟩ := hR.2.1
  refine z_aload_n F dX10_minus_0 rfl ?_
  refine z_iload_n F dX10_minus_1 rfl ?_
  refine z_cVi F (m_topOf hR hG hs) dX10_minus_2 ml_X10_60 ok_X10_topOf b0 (by decide) rfl rfl rfl (Nat.le_of_ble_eq_true rfl) (by decide) (by decide) (fun r S' hr => ?_)
  obtain ⟨rfl, tp, rfl, htp, hx, -⟩ := hr
  generalize hQ : zQ Γ κ (pV (mP Z V (a 1) (va_up L s (L s - L t)))) 0 0 = Q
  have hsub : L s - L t < 268435456 ^ tp := Nat.lt_of_le_of_lt (Nat.sub_le _ _) hx
  have loop : ∀ (d k bo : Nat) (g : Nat → Int32) (l6 : Option Value), k + d = tp → bo = bor (L s) (L t) k → mQ g L s k (L s - L t) → zX Γ κ (Z, sA V (a 1) g) 0 0 Q 12 [some (.ref (a 0)), some (.int (nI s)), some (.int (nI t)), some (.int (nI tp)), some (.int (nI bo)), some (.int (nI k)), l6] [] := by
    intro d
    induction d with
    | zero =>
      intro k bo g l6 hk hbo hq
      have hfin := hq.done hG.2 (Nat.lt_of_le_of_lt (Nat.sub_le _ _) (hG.2 s hs)) (fun j h1 h2 => by rw [dg_hi hx (by omega), dg_hi hsub (by omega)])
      refine z_iload F dX10_minus_12 rfl ?_
      refine z_iload_n F dX10_minus_14 rfl ?_
      refine z_icmp_ge (tgt := 83) F dX10_minus_15 (by decide) (fun c1 => ?_) (fun c1 => ?_)
      · subst hQ
        exact z_vret F dX10_minus_83 rfl (mP.of hfin)
      · exact absurd (nI_le (by omega) (by omega)) c1
    | succ d ih =>
      intro k bo g l6 hk hbo hq
      have hk16 : k < 16 := by omega
      have rs : vA (sA V (a 1) g) (a 1) (nI (16 * s + k)).toNatClampNeg = nI (dg (L s) k) := by rw [vA_sA_self, clw hs hk16]; exact hq.1 s k hs hk16 (Or.inr (Nat.le_refl k))
      have rt : vA (sA V (a 1) g) (a 1) (nI (16 * t + k)).toNatClampNeg = nI (dg (L t) k) := by rw [vA_sA_self, clw ht hk16]; exact hq.1 t k ht hk16 (Or.inl hne)
      obtain ⟨a1, a2⟩ := sub_dg hb k
      rw [← hbo] at a1 a2
      have l3 : bo ≤ 1 := by rw [hbo]; exact bor_le _ _ _
      obtain ⟨i1, i2⟩ := sub_int (dg_lt (L s) k) (dg_lt (L t) k) l3
      have st : ∀ (b2 : Nat) (vv : Int32), b2 = bor (L s) (L t) (k + 1) → vv &&& 268435455 = nI (dg (L s - L t) k) → zX Γ κ (Z, sA V (a 1) g) 0 0 Q 58 [some (.ref (a 0)), some (.int (nI s)), some (.int (nI t)), some (.int (nI tp)), some (.int (nI bo)), some (.int (nI k)), some (.int vv)] [.int (nI b2)] := by
        intro b2 vv hb2 hvv
        refine z_istore_4 F dX10_minus_58 rfl ?_
        refine z_aload_n F dX10_minus_60 rfl ?_
        refine z_getR F dX10_minus_61 gr_X10_7 (by assumption) (by assumption) ?_
        refine z_bipush (v := nI 16) F dX10_minus_64 (by decide) ?_
        refine z_iload_n F dX10_minus_66 rfl ?_
        refine z_imul F dX10_minus_67 ?_
        refine z_iload F dX10_minus_68 rfl ?_
        refine z_iadd F dX10_minus_70 ?_
        refine z_ti (ixw s k) ?_
        refine z_iload F dX10_minus_71 rfl ?_
        refine z_ldc (v := 268435455) F dX10_minus_73 cn_X10_64 ?_
        refine z_iand F dX10_minus_75 ?_
        refine z_ti hvv ?_
        refine z_iast F dX10_minus_76 (by assumption) (hR.inw hs hk16) ?_
        refine z_V (show _ = sA V (a 1) (upd g (16 * s + k) (nI (dg (L s - L t) k))) by rw [clw hs hk16, vA_sA_self, sA_sA]) ?_
        refine z_iinc_5 F dX10_minus_77 rfl ?_
        refine z_goto (tgt := 12) F dX10_minus_80 (by decide) ?_
        rw [show nI k + Int32.ofInt 1 = nI (k + 1) from nI_1 k]
        exact ih (k + 1) b2 _ _ (by omega) hb2 (hq.step hk16 rfl)
      refine z_iload F dX10_minus_12 rfl ?_
      refine z_iload_n F dX10_minus_14 rfl ?_
      refine z_icmp_ge (tgt := 83) F dX10_minus_15 (by decide) (fun c1 => ?_) (fun c1 => ?_)
      · exact absurd ((nI_leI (by omega) (by omega)).mp c1) (by omega)
      · refine z_aload_n F dX10_minus_18 rfl ?_
        refine z_getR F dX10_minus_19 gr_X10_7 (by assumption) (by assumption) ?_
        refine z_bipush (v := nI 16) F dX10_minus_22 (by decide) ?_
        refine z_iload_n F dX10_minus_24 rfl ?_
        refine z_imul F dX10_minus_25 ?_
        refine z_iload F dX10_minus_26 rfl ?_
        refine z_iadd F dX10_minus_28 ?_
        refine z_ti (ixw s k) ?_
        refine z_iald F dX10_minus_29 (by assumption) (hR.inw hs hk16) ?_
        refine z_ti rs ?_
        refine z_aload_n F dX10_minus_30 rfl ?_
        refine z_getR F dX10_minus_31 gr_X10_7 (by assumption) (by assumption) ?_
        refine z_bipush (v := nI 16) F dX10_minus_34 (by decide) ?_
        refine z_iload_n F dX10_minus_36 rfl ?_
        refine z_imul F dX10_minus_37 ?_
        refine z_iload F dX10_minus_38 rfl ?_
        refine z_iadd F dX10_minus_40 ?_
        refine z_ti (ixw t k) ?_
        refine z_iald F dX10_minus_41 (by assumption) (hR.inw ht hk16) ?_
        refine z_ti rt ?_
        refine z_isub F dX10_minus_42 ?_
        refine z_iload F dX10_minus_43 rfl ?_
        refine z_isub F dX10_minus_45 ?_
        refine z_istore_6 F dX10_minus_46 rfl ?_
        refine z_iload F dX10_minus_48 rfl ?_
        refine z_if_ge (tgt := 57) F dX10_minus_50 (by decide) (fun c2 => ?_) (fun c2 => ?_)
        · have h : ¬ dg (L s) k < dg (L t) k + bo := fun z => by
            have h1 := Int32.lt_iff_toInt_lt.mp (i1.mpr z)
            have h2 := Int32.le_iff_toInt_le.mp c2
            omega
          rw [if_neg h] at a2
          refine z_iconst (v := nI 0) F dX10_minus_57 (by decide) ?_
          exact st 0 _ a2.symm (by rw [i2, a1])
        · have h : dg (L s) k < dg (L t) k + bo := i1.mp (Int32.lt_iff_toInt_lt.mpr (by have h2 := mt Int32.le_iff_toInt_le.mpr c2; omega))
          rw [if_pos h] at a2
          refine z_iconst (v := nI 1) F dX10_minus_53 (by decide) ?_
          refine z_goto (tgt := 58) F dX10_minus_54 (by decide) ?_
          exact st 1 _ a2.symm (by rw [i2, a1])
  refine z_istore_n_3 F dX10_minus_5 rfl ?_
  refine z_iconst (v := nI 0) F dX10_minus_6 (by decide) ?_
  refine z_istore_4 F dX10_minus_7 rfl ?_
  refine z_iconst (v := nI 0) F dX10_minus_9 (by decide) ?_
  refine z_istore_5 F dX10_minus_10 rfl ?_
  refine z_V (sA_id V (a 1)).symm ?_
  exact loop tp 0 0 _ _ (by omega) (by unfold bor; rw [Nat.pow_zero, Nat.mod_one, Nat.mod_one]; rfl) (mQ.zero hG)
theorem dg_bit (x k : Nat) : dg x (k / 28) / 2 ^ (k % 28) % 2 = x / 2 ^ k % 2 := by
  unfold dg
  have e1 : 268435456 ^ (k / 28) = 2 ^ (28 * (k / 28)) := by rw [Nat.pow_mul]
  have e2 : 268435456 = 2 ^ (k % 28) * (2 * 2 ^ (27 - k % 28)) := by
    rw [← Nat.pow_succ', ← Nat.pow_add, show k % 28 + (27 - k % 28 + 1) = 28 by omega]
  rw [e1]
  conv => lhs; rw [show x / 2 ^ (28 * (k / 28)) % 268435456 = x / 2 ^ (28 * (k / 28)) % (2 ^ (k % 28) * (2 * 2 ^ (27 - k % 28))) by rw [← e2]]
  rw [Nat.mod_mul_right_div_self, Nat.mod_mul_right_mod, Nat.div_div_eq_div_mul, ← Nat.pow_add, show 28 * (k / 28) + k % 28 = k by omega]
theorem sh31 : ∀ k, k < 32 → ((nI k &&& 31).toBitVec.smod 32).toNat = k := by decide +kernel
set_option maxRecDepth 100000 in
theorem m_bitAt {k : Nat} (hR : mR Z a) (hG : mG (vA V (a 1)) L) (hs : s < 240) (hk : k < 448) : zCt Γ mX10_bitAt 0 0 0 0 [.ref (a 0), .int (nI s), .int (nI k)] (Z, V) (pI (q0 Z V (nI (L s / 2 ^ k % 2)))) := by
  refine zCt.of [some (.ref (a 0)), some (.int (nI s)), some (.int (nI k))] pn_X10_bitAt rfl (Nat.le_of_ble_eq_true rfl) rfl (fun κ F => ?_)
  obtain ⟨b0, b1, -⟩ := hR.1
  obtain ⟨d1, d2, -⟩ := hR.2.1
  have hk16 : k / 28 < 16 := by omega
  have h28 : ¬ nI 28 = 0 := by decide
  have rd : vA V (a 1) (nI (16 * s + k / 28)).toNatClampNeg = nI (dg (L s) (k / 28)) := by rw [clw hs hk16]; exact hG.1 s _ hs hk16
  have hlt := dg_lt (L s) (k / 28)
  have e1 : nI (dg (L s) (k / 28)) >>> (nI (k % 28) &&& 31) = nI (dg (L s) (k / 28) / 2 ^ (k % 28)) := pk_shrN (by omega) _ _ (sh31 _ (by omega))
  have hl2 : dg (L s) (k / 28) / 2 ^ (k % 28) < 2147483648 := Nat.lt_of_le_of_lt (Nat.div_le_self _ _) (by omega)
  refine z_aload_n F dX10_bitAt_0 rfl ?_
  refine z_getR F dX10_bitAt_1 gr_X10_7 (by assumption) (by assumption) ?_
  refine z_bipush (v := nI 16) F dX10_bitAt_4 (by decide) ?_
  refine z_iload_n F dX10_bitAt_6 rfl ?_
  refine z_imul F dX10_bitAt_7 ?_
  refine z_ti (pk_mul _ _) ?_
  refine z_iload_n F dX10_bitAt_8 rfl ?_
  refine z_bipush (v := nI 28) F dX10_bitAt_9 (by decide) ?_
  refine z_idiv F dX10_bitAt_11 h28 ?_
  refine z_ti (pk_div (by omega) (by decide) (by decide)) ?_
  refine z_iadd F dX10_bitAt_12 ?_
  refine z_ti (nI_add _ _) ?_
  refine z_iald F dX10_bitAt_13 (by assumption) (hR.inw hs hk16) ?_
  refine z_ti rd ?_
  refine z_iload_n F dX10_bitAt_14 rfl ?_
  refine z_bipush (v := nI 28) F dX10_bitAt_15 (by decide) ?_
  refine z_irem F dX10_bitAt_17 h28 ?_
  refine z_ti (pk_rem (by omega) (by decide) (by decide)) ?_
  refine z_ishr F dX10_bitAt_18 ?_
  refine z_ti e1 ?_
  refine z_iconst (v := nI 1) F dX10_bitAt_19 (by decide) ?_
  refine z_iand F dX10_bitAt_20 ?_
  refine z_ti (and1 hl2) ?_
  exact z_iret F dX10_bitAt_21 rfl ⟨by rw [dg_bit], rfl⟩
theorem mP.after {V1 : Hv} {L2 : Nat → Nat} {S' : Hs} (h1 : eW (a 1) V V1) (h2 : mP Z V1 (a 1) L2 S') : mP Z V (a 1) L2 S' := by
  obtain ⟨V', e, h3, h4⟩ := h2
  exact ⟨V', e, h1.trans h3, h4⟩
theorem dg3 {x : Nat} (h : x < 18446744073709551616) : dg x 0 = x % 268435456 ∧ dg x 1 = x / 268435456 % 268435456 ∧ dg x 2 = x / 72057594037927936 ∧ x < 268435456 ^ 3 := by
  unfold dg
  refine ⟨by rw [Nat.pow_zero, Nat.div_one], by rw [Nat.pow_one], ?_, Nat.lt_trans h (by decide)⟩
  rw [show (268435456 : Nat) ^ 2 = 72057594037927936 by decide]
  exact Nat.mod_eq_of_lt (by omega)
theorem abs64' (x : Int64) : (if x < 0 then -x else x) = lN x.toInt.natAbs := by
  have h := abs64 x
  by_cases hx : x < 0
  · rw [if_pos hx]
    have h1 := Int64.lt_iff_toInt_lt.mp hx
    rw [if_neg (fun z => by have h2 := Int64.lt_iff_toInt_lt.mp z; omega)] at h
    exact h
  · rw [if_neg hx]
    by_cases h0 : 0 < x
    · rw [if_pos h0] at h; exact h
    · have e : x = 0 := Int64.toInt_inj.mp (by
        have h1 := mt Int64.lt_iff_toInt_lt.mpr hx
        have h2 := mt Int64.lt_iff_toInt_lt.mpr h0
        have e0 : (0 : Int64).toInt = 0 := rfl
        omega)
      subst e
      rfl
set_option maxRecDepth 100000 in
theorem m_setLong (x : Int64) (hR : mR Z a) (hG : mG (vA V (a 1)) L) (hs : s < 240) : zCt Γ mX10_setLong 1 22 0 0 [.ref (a 0), .int (nI s), .long x] (Z, V) (pV (mP Z V (a 1) (va_up L s x.toInt.natAbs))) := by
  refine zCt.of [some (.ref (a 0)), some (.int (nI s)), some (.long x), none, none, none] pn_X10_setLong rfl (Nat.le_of_ble_eq_true rfl) rfl (fun κ F => ?_)
  obtain ⟨b0, b1, -⟩ := hR.1
  obtain ⟨d1, d2, -⟩ := hR.2.1
  have hn := abs64_lt x
  have habs := abs64' x
  obtain ⟨n, hnn⟩ : ∃ n, n = x.toInt.natAbs := ⟨_, rfl⟩
  rw [← hnn] at hn habs ⊢
  obtain ⟨g0, g1, g2, g3⟩ := dg3 hn
  refine z_aload_n F dX10_setLong_0 rfl ?_
  refine z_iload_n F dX10_setLong_1 rfl ?_
  refine z_cVv F (m_wipe hR hG hs) dX10_setLong_2 ml_X10_55 ok_X10_wipe b0 (by decide) rfl rfl rfl (Nat.le_of_ble_eq_true rfl) (by decide) (by decide) (fun S' hS' => ?_)
  obtain ⟨V1, rfl, hE1, hG1⟩ := hS'
  have i0 : vp_in (nI (16 * s)) (zn Z (a 1)) := hR.inw (k := 0) hs (by decide)
  have i1 : vp_in (nI (16 * s + 1)) (zn Z (a 1)) := hR.inw (k := 1) hs (by decide)
  have i2 : vp_in (nI (16 * s + 2)) (zn Z (a 1)) := hR.inw (k := 2) hs (by decide)
  have e1 : ((lN n).toUInt64 >>> ((nI 28).toInt64.toUInt64 &&& Int64.toUInt64 63)).toInt64 = lN (n / 268435456) := lN_shrk (by omega) (by decide)
  have e2 : ((lN n).toUInt64 >>> ((nI 56).toInt64.toUInt64 &&& Int64.toUInt64 63)).toInt64 = lN (n / 72057594037927936) := lN_shrk (by omega) (by decide)
  have q0' : mQ (vA V1 (a 1)) (va_up L s 0) s 0 n := mQ.zero hG1
  have q1 := q0'.step (v := nI (n % 268435456)) (by decide) (by rw [g0])
  have q2 := q1.step (v := nI (n / 268435456 % 268435456)) (by decide) (by rw [g1])
  have q3 := q2.step (v := nI (n / 72057594037927936)) (by decide) (by rw [g2])
  have hfin := q3.done hG1.2 (Nat.lt_trans g3 (Nat.pow_lt_pow_right (by decide) (by decide))) (fun j h1 h2 => by rw [up_self, dg_0, dg_hi g3 (by omega)])
  rw [bx_uu] at hfin
  have tail : zX Γ κ (Z, V1) (0 + 0) (0 + 0) (zQ Γ κ (pV (mP Z V (a 1) (va_up L s n))) 0 0) 17 [some (.ref (a 0)), some (.int (nI s)), some (.long x), none, none, none] [.long (lN n)] := by
    refine z_lstore_4 F dX10_setLong_17 rfl ?_
    refine z_aload_n F dX10_setLong_19 rfl ?_
    refine z_getR F dX10_setLong_20 gr_X10_7 (by assumption) (by assumption) ?_
    refine z_bipush (v := nI 16) F dX10_setLong_23 (by decide) ?_
    refine z_iload_n F dX10_setLong_25 rfl ?_
    refine z_imul F dX10_setLong_26 ?_
    refine z_ti (pk_mul _ _) ?_
    refine z_lload F dX10_setLong_27 rfl ?_
    refine z_ldc2 (v := 268435455) F dX10_setLong_29 cn_X10_58 ?_
    refine z_land F dX10_setLong_32 ?_
    refine z_tl (land28 (by omega)) ?_
    refine z_l2i F dX10_setLong_33 ?_
    refine z_ti (lN_i _) ?_
    refine z_iast F dX10_setLong_34 (by assumption) i0 ?_
    refine z_V (show _ = sA V1 (a 1) (upd (vA V1 (a 1)) (16 * s + 0) (nI (n % 268435456))) by rw [nI_clamp (by omega)]; rfl) ?_
    refine z_aload_n F dX10_setLong_35 rfl ?_
    refine z_getR F dX10_setLong_36 gr_X10_7 (by assumption) (by assumption) ?_
    refine z_bipush (v := nI 16) F dX10_setLong_39 (by decide) ?_
    refine z_iload_n F dX10_setLong_41 rfl ?_
    refine z_imul F dX10_setLong_42 ?_
    refine z_ti (pk_mul _ _) ?_
    refine z_iconst (v := nI 1) F dX10_setLong_43 (by decide) ?_
    refine z_iadd F dX10_setLong_44 ?_
    refine z_ti (nI_add _ 1) ?_
    refine z_lload F dX10_setLong_45 rfl ?_
    refine z_bipush (v := nI 28) F dX10_setLong_47 (by decide) ?_
    refine z_lushr F dX10_setLong_49 ?_
    refine z_tl e1 ?_
    refine z_ldc2 (v := 268435455) F dX10_setLong_50 cn_X10_58 ?_
    refine z_land F dX10_setLong_53 ?_
    refine z_tl (land28 (by omega)) ?_
    refine z_l2i F dX10_setLong_54 ?_
    refine z_ti (lN_i _) ?_
    refine z_iast F dX10_setLong_55 (by assumption) i1 ?_
    refine z_V (show _ = sA V1 (a 1) (upd (upd (vA V1 (a 1)) (16 * s + 0) (nI (n % 268435456))) (16 * s + (0 + 1)) (nI (n / 268435456 % 268435456))) by rw [nI_clamp (by omega), vA_sA_self, sA_sA]) ?_
    refine z_aload_n F dX10_setLong_56 rfl ?_
    refine z_getR F dX10_setLong_57 gr_X10_7 (by assumption) (by assumption) ?_
    refine z_bipush (v := nI 16) F dX10_setLong_60 (by decide) ?_
    refine z_iload_n F dX10_setLong_62 rfl ?_
    refine z_imul F dX10_setLong_63 ?_
    refine z_ti (pk_mul _ _) ?_
    refine z_iconst (v := nI 2) F dX10_setLong_64 (by decide) ?_
    refine z_iadd F dX10_setLong_65 ?_
    refine z_ti (nI_add _ 2) ?_
    refine z_lload F dX10_setLong_66 rfl ?_
    refine z_bipush (v := nI 56) F dX10_setLong_68 (by decide) ?_
    refine z_lushr F dX10_setLong_70 ?_
    refine z_tl e2 ?_
    refine z_l2i F dX10_setLong_71 ?_
    refine z_ti (lN_i _) ?_
    refine z_iast F dX10_setLong_72 (by assumption) i2 ?_
    refine z_V (show _ = sA V1 (a 1) (upd (upd (upd (vA V1 (a 1)) (16 * s + 0) (nI (n % 268435456))) (16 * s + (0 + 1)) (nI (n / 268435456 % 268435456))) (16 * s + (0 + 1 + 1)) (nI (n / 72057594037927936))) by rw [nI_clamp (by omega), vA_sA_self, sA_sA]) ?_
    exact z_vret F dX10_setLong_73 rfl (mP.after hE1 (mP.of hfin))
  refine z_lload_n F dX10_setLong_5 rfl ?_
  refine z_lconst (v := lN 0) F dX10_setLong_6 (by decide) ?_
  refine z_lcmp F dX10_setLong_7 ?_
  refine z_if_ge (tgt := 16) F dX10_setLong_8 (by decide) (fun c1 => ?_) (fun c1 => ?_)
  · have h : ¬ x < 0 := fun z => by
      have h1 := Int64.lt_iff_toInt_lt.mp z
      have h2 := Int64.le_iff_toInt_le.mp ((lg_cmp_ge _ _).mp c1)
      have e0 : (lN 0).toInt = (0 : Int64).toInt := rfl
      omega
    rw [if_neg h] at habs
    refine z_lload_n F dX10_setLong_16 rfl ?_
    refine z_tl habs ?_
    exact tail
  · have h : x < 0 := Int64.lt_iff_toInt_lt.mpr (by
      have h2 := mt Int64.le_iff_toInt_le.mpr (mt (lg_cmp_ge _ _).mpr c1)
      have e0 : (lN 0).toInt = (0 : Int64).toInt := rfl
      omega)
    rw [if_pos h] at habs
    refine z_lload_n F dX10_setLong_11 rfl ?_
    refine z_lneg F dX10_setLong_12 ?_
    refine z_tl habs ?_
    refine z_goto (tgt := 17) F dX10_setLong_13 (by decide) ?_
    exact tail
end MOD2
