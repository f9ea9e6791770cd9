/-! ===== FractionRowsModel: divide, divisor ===== -/
theorem set_dg {m k : Nat} : (dg (2 ^ (k + 1) * m + 2 ^ k) (k / 28) = dg (2 ^ (k + 1) * m) (k / 28) + 2 ^ (k % 28)) ∧ (∀ i, i ≠ k / 28 → dg (2 ^ (k + 1) * m + 2 ^ k) i = dg (2 ^ (k + 1) * m) i) ∧ dg (2 ^ (k + 1) * m) (k / 28) % 2 ^ (k % 28 + 1) = 0 := by
  obtain ⟨p, hp⟩ : ∃ p, p = k / 28 := ⟨_, rfl⟩
  obtain ⟨j, hj⟩ : ∃ j, j = k % 28 := ⟨_, rfl⟩
  rw [← hp, ← hj]
  have hk : k = 28 * p + j := by omega
  have hj28 : j < 28 := by omega
  have eB : ∀ q : Nat, 268435456 ^ q = 2 ^ (28 * q) := fun q => by rw [Nat.pow_mul]
  have e1 : 2 ^ k = 268435456 ^ p * 2 ^ j := by rw [eB, ← Nat.pow_add, hk]
  have e2 : 2 ^ (k + 1) * m = 268435456 ^ p * (2 ^ (j + 1) * m) := by rw [eB, ← Nat.mul_assoc, ← Nat.pow_add]; congr 2; omega
  have e3 : (2 ^ (k + 1) * m) / 268435456 ^ p = 2 ^ (j + 1) * m := by rw [e2, Nat.mul_div_cancel_left _ (dgp p)]
  have e4 : (2 ^ (k + 1) * m + 2 ^ k) / 268435456 ^ p = 2 ^ (j + 1) * m + 2 ^ j := by rw [e2, e1, ← Nat.mul_add, Nat.mul_div_cancel_left _ (dgp p)]
  have e28 : (268435456 : Nat) = 2 ^ (j + 1) * 2 ^ (27 - j) := by rw [← Nat.pow_add, show j + 1 + (27 - j) = 28 by omega]
  have pj : 2 ^ (j + 1) = 2 * 2 ^ j := by rw [Nat.pow_succ']
  have pj0 : 0 < 2 ^ j := Nat.pow_pos (by decide)
  have c1 : ∀ q : Nat, 2 ^ (j + 1) * q % 268435456 = 2 ^ (j + 1) * (q % 2 ^ (27 - j)) := fun q => by
    conv => lhs; rhs; rw [e28]
    rw [Nat.mul_mod_mul_left]
  have hlt : 2 ^ (j + 1) * (m % 2 ^ (27 - j)) + 2 ^ (j + 1) ≤ 268435456 := by
    have h1 := Nat.mod_lt m (show 0 < 2 ^ (27 - j) from Nat.pow_pos (by decide))
    have h2 : 2 ^ (j + 1) * (m % 2 ^ (27 - j) + 1) ≤ 2 ^ (j + 1) * 2 ^ (27 - j) := Nat.mul_le_mul_left _ h1
    rw [← e28, Nat.mul_add, Nat.mul_one] at h2
    exact h2
  have hsplit : 2 ^ (j + 1) * m = 268435456 * (2 ^ (j + 1) * m / 268435456) + 2 ^ (j + 1) * (m % 2 ^ (27 - j)) := by
    rw [← c1]; exact (Nat.div_add_mod _ _).symm
  have e5 : (2 ^ (j + 1) * m + 2 ^ j) / 268435456 = 2 ^ (j + 1) * m / 268435456 ∧ (2 ^ (j + 1) * m + 2 ^ j) % 268435456 = 2 ^ (j + 1) * (m % 2 ^ (27 - j)) + 2 ^ j := by
    generalize 2 ^ (j + 1) * m / 268435456 = q at *
    generalize 2 ^ (j + 1) * (m % 2 ^ (27 - j)) = w at *
    generalize 2 ^ (j + 1) * m = z at *
    generalize 2 ^ j = u at *
    generalize 2 ^ (j + 1) = u2 at *
    omega
  refine ⟨?_, fun i hi => ?_, ?_⟩
  · show (2 ^ (k + 1) * m + 2 ^ k) / 268435456 ^ p % 268435456 = 2 ^ (k + 1) * m / 268435456 ^ p % 268435456 + 2 ^ j
    rw [e4, e3, e5.2, c1]
  · rcases Nat.lt_or_ge i p with h | h
    · refine dg_lo (k := p) ?_ h
      rw [e1, Nat.add_mul_mod_self_left]
    · have hi2 : p + 1 ≤ i := by omega
      have e6 : ∀ z : Nat, z / 268435456 ^ i = z / 268435456 ^ p / 268435456 / 268435456 ^ (i - (p + 1)) := fun z => by
        rw [Nat.div_div_eq_div_mul, Nat.div_div_eq_div_mul, ← Nat.pow_succ', ← Nat.pow_add]
        congr 2
        omega
      unfold dg
      rw [e6, e6 (2 ^ (k + 1) * m), e4, e3, e5.1]
  · show 2 ^ (k + 1) * m / 268435456 ^ p % 268435456 % 2 ^ (j + 1) = 0
    rw [e3, c1, Nat.mul_mod_right]
theorem or_int {x j : Nat} (hj : j < 28) (hx : x < 268435456) (hm : x % 2 ^ (j + 1) = 0) : nI x ||| nI (2 ^ j) = nI (x + 2 ^ j) := by
  have e : x = 2 ^ (j + 1) * (x / 2 ^ (j + 1)) := by
    have := Nat.div_add_mod x (2 ^ (j + 1))
    omega
  have hlt : 2 ^ j < 2 ^ (j + 1) := Nat.pow_lt_pow_right (by decide) (by omega)
  have h28 : 2 ^ j ≤ 2 ^ 27 := Nat.pow_le_pow_right (by decide) (by omega)
  have h1 : x ||| 2 ^ j = x + 2 ^ j := by
    rw [e, Nat.mul_comm, ← Nat.shiftLeft_eq, Nat.shiftLeft_add_eq_or_of_lt hlt]
  apply Int32.toBitVec_inj.mp
  rw [Int32.toBitVec_or]
  show BitVec.ofNat 32 _ ||| BitVec.ofNat 32 _ = BitVec.ofNat 32 _
  apply BitVec.eq_of_toNat_eq
  rw [BitVec.toNat_or, BitVec.toNat_ofNat, BitVec.toNat_ofNat, BitVec.toNat_ofNat, Nat.mod_eq_of_lt (show x < 2 ^ 32 by omega), Nat.mod_eq_of_lt (show 2 ^ j < 2 ^ 32 by omega), h1, Nat.mod_eq_of_lt (by omega)]
theorem mG.put {g : Nat → Int32} {L : Nat → Nat} {c p x v : Nat} (h : mG g L) (hv : dg x p = v) (hd : ∀ i, i ≠ p → dg x i = dg (L c) i) (hx : x < 268435456 ^ 16) (hp : p < 16) : mG (upd g (16 * c + p) (nI v)) (va_up L c x) := by
  refine ⟨fun s j hs hj => ?_, fun s hs => ?_⟩
  · by_cases e : s = c
    · subst e
      rw [up_self]
      by_cases e2 : j = p
      · subst e2; rw [pk_us, hv]
      · rw [pk_un (by omega), hd j e2]; exact h.1 s j hs hj
    · rw [up_ne _ _ e, pk_un (by omega)]; exact h.1 s j hs hj
  · by_cases e : s = c
    · rw [e, up_self]; exact hx
    · rw [up_ne _ _ e]; exact h.2 s hs
section MOD6
variable {Γ : Gm} {Z : Hz} {V : Hv} {a : Nat → Nat} {L : Nat → Nat} {s t q r : Nat}
theorem up_comm {α : Type} (f : Nat → α) {i j : Nat} (x y : α) (h : i ≠ j) : va_up (va_up f i x) j y = va_up (va_up f j y) i x := by
  funext k
  by_cases h1 : k = j
  · subst h1; rw [up_self, up_ne _ _ (Ne.symm h), up_self]
  · rw [up_ne _ _ h1]
    by_cases h2 : k = i
    · subst h2; rw [up_self, up_self]
    · rw [up_ne _ _ h2, up_ne _ _ h2, up_ne _ _ h1]
set_option maxRecDepth 100000 in
set_option maxHeartbeats 1000000 in
theorem m_divide (hR : mR Z a) (hG : mG (vA V (a 1)) L) (hs : s < 240) (ht : t < 240) (hq : q < 240) (hr : r < 240) (nqs : s ≠ q) (nqt : t ≠ q) (nrs : s ≠ r) (nrt : t ≠ r) (nqr : q ≠ r) (hy0 : 0 < L t) (hy : L t < 268435456 ^ 15) : zCt Γ mX10_divide 2 48 0 0 [.ref (a 0), .int (nI s), .int (nI t), .int (nI q), .int (nI r)] (Z, V) (pV (mP Z V (a 1) (va_up (va_up L q (L s / L t)) r (L s % L t)))) := by
  refine zCt.of [some (.ref (a 0)), some (.int (nI s)), some (.int (nI t)), some (.int (nI q)), some (.int (nI r)), none] pn_X10_divide rfl (Nat.le_of_ble_eq_true rfl) rfl (fun κ F => ?_)
  obtain ⟨b0, b1, -⟩ := hR.1
  obtain ⟨d1, d2, -⟩ := hR.2.1
  refine z_aload_n F dX10_divide_0 rfl ?_
  refine z_iload_n F dX10_divide_1 rfl ?_
  refine z_cVv F (m_wipe hR hG hq) dX10_divide_2 ml_X10_55 ok_X10_wipe b0 (by decide) rfl rfl rfl (Nat.le_of_ble_eq_true rfl) (by decide) (by decide) (fun S' hS' => ?_)
  obtain ⟨V1, rfl, hE1, hG1⟩ := hS'
  refine z_aload_n F dX10_divide_5 rfl ?_
  refine z_iload F dX10_divide_6 rfl ?_
  refine z_cVv F (m_wipe hR hG1 hr) dX10_divide_8 ml_X10_55 ok_X10_wipe b0 (by decide) rfl rfl rfl (Nat.le_of_ble_eq_true rfl) (by decide) (by decide) (fun S' hS' => ?_)
  obtain ⟨V2, rfl, hE2, hG2⟩ := hS'
  refine z_aload_n F dX10_divide_11 rfl ?_
  refine z_iload_n F dX10_divide_12 rfl ?_
  refine z_cVi F (m_bitsOf hR hG2 hs) dX10_divide_13 ml_X10_65 ok_X10_bitsOf b0 (by decide) rfl rfl rfl (Nat.le_of_ble_eq_true rfl) (by decide) (by decide) (fun r' S' hr' => ?_)
  obtain ⟨rfl, rfl⟩ := hr'
  rw [up_ne _ _ nrs, up_ne _ _ nqs]
  generalize hQ : zQ Γ κ (pV (mP Z V (a 1) (va_up (va_up L q (L s / L t)) r (L s % L t)))) 0 0 = Q
  have hxl := hG.2 s hs
  generalize hx0 : L s = x at *
  generalize hyy : L t = y at *
  have h448 : bl x ≤ 448 := by
    rw [bl_le]
    exact Nat.lt_of_lt_of_le hxl (by rw [show (268435456 : Nat) = 2 ^ 28 from rfl, ← Nat.pow_mul]; exact Nat.le_refl _)
  have h28 : ¬ nI 28 = 0 := by decide
  have loop : ∀ (k : Nat) (V3 : Hv), k ≤ 448 → eW (a 1) V V3 → mG (vA V3 (a 1)) (va_up (va_up L q (x / 2 ^ k / y * 2 ^ k)) r (x / 2 ^ k % y)) → zX Γ κ (Z, V3) 0 0 Q 20 [some (.ref (a 0)), some (.int (nI s)), some (.int (nI t)), some (.int (nI q)), some (.int (nI r)), some (.int (nI k - nI 1))] [] := by
    intro k
    induction k with
    | zero =>
      intro V3 hk hE hG3
      rw [Nat.pow_zero, Nat.div_one, Nat.mul_one] at hG3
      refine z_iload F dX10_divide_20 rfl ?_
      refine z_if_lt (tgt := 86) F dX10_divide_22 (by decide) (fun c1 => ?_) (fun c1 => ?_)
      · subst hQ
        exact z_vret F dX10_divide_86 rfl ⟨V3, rfl, hE, hG3⟩
      · exact absurd nI_0m1 c1
    | succ k ih =>
      intro V3 hk hE hG3
      rw [nI_km1]
      obtain ⟨A, hA⟩ : ∃ A, A = x / 2 ^ (k + 1) := ⟨_, rfl⟩
      rw [← hA] at hG3
      obtain ⟨bt, hbt⟩ : ∃ bt, bt = x / 2 ^ k % 2 := ⟨_, rfl⟩
      have hA2 : x / 2 ^ k = 2 * A + bt := by
        rw [hA, hbt, Nat.pow_succ, ← Nat.div_div_eq_div_mul]
        omega
      have hb1 : bt ≤ 1 := by rw [hbt]; omega
      have hRy := Nat.mod_lt A hy0
      have e15 : 268435456 ^ 16 = 268435456 ^ 15 * 268435456 := Nat.pow_succ _ _
      have h2R : 2 * (A % y) + bt < 268435456 ^ 16 := by
        rw [e15]
        generalize 268435456 ^ 15 = P at hy ⊢
        omega
      refine z_iload F dX10_divide_20 rfl ?_
      refine z_if_lt (tgt := 86) F dX10_divide_22 (by decide) (fun c1 => ?_) (fun c1 => ?_)
      · exact absurd c1 (nI_pos (by omega))
      · refine z_aload_n F dX10_divide_25 rfl ?_
        refine z_iload F dX10_divide_26 rfl ?_
        refine z_aload_n F dX10_divide_28 rfl ?_
        refine z_iload_n F dX10_divide_29 rfl ?_
        refine z_iload F dX10_divide_30 rfl ?_
        refine z_cVi F (m_bitAt (k := k) hR hG3 hs (by omega)) dX10_divide_32 ml_X10_68 ok_X10_bitAt b0 (by decide) rfl rfl rfl (Nat.le_of_ble_eq_true rfl) (by decide) (by decide) (fun r' S' hr' => ?_)
        obtain ⟨rfl, rfl⟩ := hr'
        rw [up_ne _ _ nrs, up_ne _ _ nqs, hx0, ← hbt]
        refine z_cVv F (m_twice (b := bt) hR hG3 hr hb1 (by rw [up_self]; exact h2R)) dX10_divide_35 ml_X10_72 ok_X10_twice b0 (by decide) rfl rfl rfl (Nat.le_of_ble_eq_true rfl) (by decide) (by decide) (fun S' hS' => ?_)
        obtain ⟨V4, rfl, hE4, hG4⟩ := hS'
        rw [up_self, bx_uu] at hG4
        obtain ⟨R2, hR2⟩ : ∃ R2, R2 = 2 * (A % y) + bt := ⟨_, rfl⟩
        rw [← hR2] at hG4
        have hdA := Nat.div_add_mod A y
        have hAy : 2 * A + bt = y * (2 * (A / y)) + R2 := by
          rw [hR2]
          have : y * (2 * (A / y)) = 2 * (y * (A / y)) := by rw [Nat.mul_left_comm]
          omega
        refine z_aload_n F dX10_divide_38 rfl ?_
        refine z_iload F dX10_divide_39 rfl ?_
        refine z_iload_n F dX10_divide_41 rfl ?_
        refine z_cVi F (m_orderOf hR hG4 hr ht) dX10_divide_42 ml_X10_76 ok_X10_orderOf b0 (by decide) rfl rfl rfl (Nat.le_of_ble_eq_true rfl) (by decide) (by decide) (fun r' S' hr' => ?_)
        obtain ⟨rfl, rfl⟩ := hr'
        rw [up_self, up_ne _ _ nrt, up_ne _ _ nqt, hyy]
        have hq2 : A / y * 2 ^ (k + 1) = 2 ^ (k + 1) * (A / y) := Nat.mul_comm _ _
        refine z_if_lt (tgt := 80) F dX10_divide_45 (by decide) (fun c2 => ?_) (fun c2 => ?_)
        · have hlt : R2 < y := (cmpI_lt _ _).mp c2
          have ed : x / 2 ^ k / y = 2 * (A / y) := by rw [hA2, hAy, Nat.mul_add_div hy0, Nat.div_eq_of_lt hlt, Nat.add_zero]
          have em : x / 2 ^ k % y = R2 := by rw [hA2, hAy, Nat.mul_add_mod, Nat.mod_eq_of_lt hlt]
          refine z_iinc_5 F dX10_divide_80 rfl ?_
          refine z_goto (tgt := 20) F dX10_divide_83 (by decide) ?_
          rw [nI_m1]
          refine ih V4 (by omega) (hE.trans hE4) ?_
          rw [ed, em, show 2 * (A / y) * 2 ^ k = A / y * 2 ^ (k + 1) by rw [Nat.pow_succ']; rw [Nat.mul_comm 2, Nat.mul_assoc]]
          exact hG4
        · have hge : y ≤ R2 := Nat.le_of_not_lt (fun z => c2 ((cmpI_lt _ _).mpr z))
          have h2y : R2 - y < y := by omega
          have ed : x / 2 ^ k / y = 2 * (A / y) + 1 := by
            rw [hA2, hAy, Nat.mul_add_div hy0]
            congr 1
            rw [show R2 = y * 1 + (R2 - y) by omega, Nat.mul_add_div hy0, Nat.div_eq_of_lt h2y]
          have em : x / 2 ^ k % y = R2 - y := by
            rw [hA2, hAy, Nat.mul_add_mod, show R2 = y * 1 + (R2 - y) by omega, Nat.mul_add_mod, Nat.mod_eq_of_lt h2y]
            omega
          refine z_aload_n F dX10_divide_48 rfl ?_
          refine z_iload F dX10_divide_49 rfl ?_
          refine z_iload_n F dX10_divide_51 rfl ?_
          refine z_cVv F (m_minus hR hG4 hr ht nrt (by rw [up_self, up_ne _ _ nrt, up_ne _ _ nqt, hyy]; exact hge)) dX10_divide_52 ml_X10_79 ok_X10_minus b0 (by decide) rfl rfl rfl (Nat.le_of_ble_eq_true rfl) (by decide) (by decide) (fun S' hS' => ?_)
          obtain ⟨V5, rfl, hE5, hG5⟩ := hS'
          rw [up_self, up_ne _ _ nrt, up_ne _ _ nqt, hyy, bx_uu, hq2] at hG5
          obtain ⟨s1, s2, s3⟩ := set_dg (m := A / y) (k := k)
          have hp16 : k / 28 < 16 := by omega
          have hj28 : k % 28 < 28 := by omega
          have rd : vA V5 (a 1) (nI (16 * q + k / 28)).toNatClampNeg = nI (dg (2 ^ (k + 1) * (A / y)) (k / 28)) := by rw [clw hq hp16, hG5.1 q _ hq hp16, up_ne _ _ nqr, up_self]
          have esh : nI 1 <<< (nI (k % 28) &&& 31) = nI (2 ^ (k % 28)) := by
            have h9 : 2 ^ (k % 28) ≤ 2 ^ 27 := Nat.pow_le_pow_right (by decide) (by omega)
            rw [pk_shlN (n := 1) _ (k % 28) (sh31 _ (by omega)) (by omega), Nat.one_mul]
          have eor := or_int hj28 (dg_lt _ _) s3
          have hnew : 2 ^ (k + 1) * (A / y) + 2 ^ k = x / 2 ^ k / y * 2 ^ k := by
            rw [ed, Nat.add_mul, Nat.one_mul, Nat.pow_succ, Nat.mul_assoc, Nat.mul_comm (2 ^ k)]
          have hnl : 2 ^ (k + 1) * (A / y) + 2 ^ k < 268435456 ^ 16 := by
            rw [hnew]
            refine Nat.lt_of_le_of_lt ?_ hxl
            exact Nat.le_trans (Nat.mul_le_mul_right _ (Nat.div_le_self _ _)) (Nat.div_mul_le_self _ _)
          have hGf := hG5.put (c := q) (p := k / 28) (x := 2 ^ (k + 1) * (A / y) + 2 ^ k) s1 (fun i hi => by rw [up_ne _ _ nqr, up_self]; exact s2 i hi) hnl hp16
          rw [up_comm L _ _ nqr, bx_uu] at hGf
          refine z_aload_n F dX10_divide_55 rfl ?_
          refine z_getR F dX10_divide_56 gr_X10_7 (by assumption) (by assumption) ?_
          refine z_bipush (v := nI 16) F dX10_divide_59 (by decide) ?_
          refine z_iload_n F dX10_divide_61 rfl ?_
          refine z_imul F dX10_divide_62 ?_
          refine z_ti (pk_mul _ _) ?_
          refine z_iload F dX10_divide_63 rfl ?_
          refine z_bipush (v := nI 28) F dX10_divide_65 (by decide) ?_
          refine z_idiv F dX10_divide_67 h28 ?_
          refine z_ti (pk_div (by omega) (by decide) (by decide)) ?_
          refine z_iadd F dX10_divide_68 ?_
          refine z_ti (nI_add _ _) ?_
          refine z_dup2 F dX10_divide_69 rfl rfl ?_
          refine z_iald F dX10_divide_70 (by assumption) (hR.inw hq hp16) ?_
          refine z_ti rd ?_
          refine z_iconst (v := nI 1) F dX10_divide_71 (by decide) ?_
          refine z_iload F dX10_divide_72 rfl ?_
          refine z_bipush (v := nI 28) F dX10_divide_74 (by decide) ?_
          refine z_irem F dX10_divide_76 h28 ?_
          refine z_ti (pk_rem (by omega) (by decide) (by decide)) ?_
          refine z_ishl F dX10_divide_77 ?_
          refine z_ti esh ?_
          refine z_ior F dX10_divide_78 ?_
          refine z_ti eor ?_
          refine z_iast F dX10_divide_79 (by assumption) (hR.inw hq hp16) ?_
          refine z_V (show _ = sA V5 (a 1) (upd (vA V5 (a 1)) (16 * q + k / 28) (nI (dg (2 ^ (k + 1) * (A / y)) (k / 28) + 2 ^ (k % 28)))) by rw [clw hq hp16]) ?_
          refine z_iinc_5 F dX10_divide_80 rfl ?_
          refine z_goto (tgt := 20) F dX10_divide_83 (by decide) ?_
          rw [nI_m1]
          refine ih _ (by omega) (((hE.trans hE4).trans hE5).trans (eW.sA V5 _)) ?_
          rw [vA_sA_self, em, ← hnew]
          rw [up_comm _ _ _ nqr]
          exact hGf
  refine z_iconst (v := nI 1) F dX10_divide_16 (by decide) ?_
  refine z_isub F dX10_divide_17 ?_
  refine z_istore_5 F dX10_divide_18 rfl ?_
  have hz : x / 2 ^ bl x = 0 := Nat.div_eq_of_lt ((bl_le (n := bl x)).mp (Nat.le_refl _))
  refine loop (bl x) V2 h448 (hE1.trans hE2) ?_
  rw [hz, Nat.zero_div, Nat.zero_mul, Nat.zero_mod]
  exact hG2
end MOD6
