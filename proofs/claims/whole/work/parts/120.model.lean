/-! ===== FractionRowsModel: isPrime, inverse, rest, meet ===== -/
theorem lN_ps {p r : Nat} (h : r ≤ p) : lN p - lN r = lN (p - r) := by
  have e : lN p = lN (p - r) + lN r := by rw [lN_add]; congr 1; omega
  rw [e, Int64.add_sub_cancel]
theorem lN_sap {r j p : Nat} (h : j ≤ p) : lN r - lN j + lN p = lN (r + p - j) := by
  have e : lN p = lN j + lN (p - j) := by rw [lN_add]; congr 1; omega
  rw [e, ← Int64.add_assoc, Int64.sub_add_cancel, lN_add]
  congr 1
  omega
theorem lN_abs {n : Nat} (h : n < 9223372036854775808) : (lN n).toInt.natAbs = n := by
  have e : (lN n).toInt = n := by
    show (Int64.ofNat n).toInt = n
    exact Int64.toInt_ofNat_of_lt (by omega)
  rw [e]
  rfl
section MOD20
variable {Γ : Gm} {Z : Hz} {V : Hv} {a : Nat → Nat} {L : Nat → Nat} {T : Nat → Fr} {f n : Nat} {s : St}
set_option maxRecDepth 100000 in
theorem m_isPrime {S : Hs} (hPr : prOk) (p : Int32) : zCt Γ mX10_isPrime 0 0 0 0 [.int p] S (pZ (fun r S' => r = isPrB (an p) ∧ S' = S)) := by
  refine zCt.of [some (.int p), none, none] pn_X10_isPrime rfl (Nat.le_of_ble_eq_true rfl) rfl (fun κ F => ?_)
  refine z_iload_n F dX10_isPrime_0 rfl ?_
  refine z_iconst (v := nI 2) F dX10_isPrime_1 (by decide) ?_
  refine z_icmp_ge (tgt := 7) F dX10_isPrime_2 (by decide) (fun c => ?_) (fun c => ?_)
  · obtain ⟨P, hP, rfl⟩ := nI_of (x := p) (fun z => by
      have h1 := Int32.lt_iff_toInt_lt.mp z
      have h2 := Int32.le_iff_toInt_le.mp c
      have e2 : (nI 2).toInt = 2 := by decide
      have e0 : (0 : Int32).toInt = 0 := by decide
      omega)
    have hP2 : 2 ≤ P := (nI_leI (by decide) hP).mp c
    rw [show an (nI P) = P from nI_clamp hP]
    generalize hQ : zQ Γ κ (pZ (fun r S' => r = isPrB P ∧ S' = S)) 0 0 = Q
    have hp64 : (nI P).toInt64 = lN P := nI_l (by omega)
    have loop : ∀ (m d : Nat), P + 1 ≤ d + m → 2 ≤ d → d ≤ 46341 → (∀ e, 2 ≤ e → e < d → P % e ≠ 0) → zX Γ κ S 0 0 Q 11 [some (.int (nI P)), some (.long (lN d)), none] [] := by
      intro m
      induction m with
      | zero =>
        intro d hm hd2 hd hdv
        have hdd : d * d ≤ 46341 * 46341 := Nat.mul_le_mul hd hd
        have hge : P < d * d := Nat.lt_of_lt_of_le (by omega) (Nat.le_mul_of_pos_left d (by omega))
        refine z_lload_n F dX10_isPrime_11 rfl ?_
        refine z_lload_n F dX10_isPrime_12 rfl ?_
        refine z_lmul F dX10_isPrime_13 ?_
        refine z_tl (lN_mul d d) ?_
        refine z_iload_n F dX10_isPrime_14 rfl ?_
        refine z_i2l F dX10_isPrime_15 ?_
        refine z_tl hp64 ?_
        refine z_lcmp F dX10_isPrime_16 ?_
        refine z_if_gt (tgt := 38) F dX10_isPrime_17 (by decide) (fun c2 => ?_) (fun c2 => ?_)
        · have ok : tpr P := ⟨hP2, fun e h1 h2 => hdv e h1 (Nat.lt_of_not_le (fun z => absurd (Nat.mul_le_mul z z) (by omega)))⟩
          subst hQ
          refine z_iconst (v := nI 1) F dX10_isPrime_38 (by decide) ?_
          exact z_zret F true dX10_isPrime_39 rfl rfl ⟨((hPr P hP).mpr ok).symm, rfl⟩
        · exact absurd ((lg_cmp_gt _ _).mpr ((pk_lLT (by omega) (by omega)).mpr hge)) c2
      | succ m ih =>
        intro d hm hd2 hd hdv
        have hdd : d * d ≤ 46341 * 46341 := Nat.mul_le_mul hd hd
        have hdne : ¬ lN d = 0 := fun z => absurd ((pk_lEQ (a := d) (b := 0) (by omega) (by decide)).mp z) (by omega)
        refine z_lload_n F dX10_isPrime_11 rfl ?_
        refine z_lload_n F dX10_isPrime_12 rfl ?_
        refine z_lmul F dX10_isPrime_13 ?_
        refine z_tl (lN_mul d d) ?_
        refine z_iload_n F dX10_isPrime_14 rfl ?_
        refine z_i2l F dX10_isPrime_15 ?_
        refine z_tl hp64 ?_
        refine z_lcmp F dX10_isPrime_16 ?_
        refine z_if_gt (tgt := 38) F dX10_isPrime_17 (by decide) (fun c2 => ?_) (fun c2 => ?_)
        · have hge := (pk_lLT (by omega) (by omega)).mp ((lg_cmp_gt _ _).mp c2)
          have ok : tpr P := ⟨hP2, fun e h1 h2 => hdv e h1 (Nat.lt_of_not_le (fun z => absurd (Nat.mul_le_mul z z) (by omega)))⟩
          subst hQ
          refine z_iconst (v := nI 1) F dX10_isPrime_38 (by decide) ?_
          exact z_zret F true dX10_isPrime_39 rfl rfl ⟨((hPr P hP).mpr ok).symm, rfl⟩
        · have hle : d * d ≤ P := Nat.le_of_not_lt (fun z => c2 ((lg_cmp_gt _ _).mpr ((pk_lLT (by omega) (by omega)).mpr z)))
          have hd0 : d ≤ 46340 := Nat.le_of_not_lt (fun z => by
            have : 46341 * 46341 ≤ d * d := Nat.mul_le_mul z z
            omega)
          refine z_iload_n F dX10_isPrime_20 rfl ?_
          refine z_i2l F dX10_isPrime_21 ?_
          refine z_tl hp64 ?_
          refine z_lload_n F dX10_isPrime_22 rfl ?_
          refine z_lrem F dX10_isPrime_23 hdne ?_
          refine z_tl (pk_lRem (by omega) (by omega) (by omega)) ?_
          refine z_lconst (v := lN 0) F dX10_isPrime_24 (by decide) ?_
          refine z_lcmp F dX10_isPrime_25 ?_
          have hml := Nat.mod_lt P (show 0 < d by omega)
          refine z_if_ne (tgt := 31) F dX10_isPrime_26 (by decide) (fun c3 => ?_) (fun c3 => ?_)
          · have hne : P % d ≠ 0 := fun z => c3 ((lg_cmp_eq _ _).mpr (by rw [z]))
            refine z_lload_n F dX10_isPrime_31 rfl ?_
            refine z_lconst (v := lN 1) F dX10_isPrime_32 (by decide) ?_
            refine z_ladd F dX10_isPrime_33 ?_
            refine z_tl (lN_add d 1) ?_
            refine z_lstore_n_1 F dX10_isPrime_34 rfl ?_
            refine z_goto (tgt := 11) F dX10_isPrime_35 (by decide) ?_
            refine ih (d + 1) (by omega) (by omega) (by omega) (fun e h1 h2 => ?_)
            by_cases h : e = d
            · rw [h]; exact hne
            · exact hdv e h1 (by omega)
          · have he : P % d = 0 := (pk_lEQ (by omega) (by decide)).mp ((lg_cmp_eq _ _).mp c3)
            have no : isPrB P = false := Bool.eq_false_iff.mpr (fun z => ((hPr P hP).mp z).2 d hd2 hle he)
            subst hQ
            refine z_iconst (v := nI 0) F dX10_isPrime_29 (by decide) ?_
            exact z_zret F false dX10_isPrime_30 rfl rfl ⟨no.symm, rfl⟩
    refine z_ldc2 (v := 2) F dX10_isPrime_7 cn_X10_208 ?_
    refine z_lstore_n_1 F dX10_isPrime_10 rfl ?_
    exact loop (P + 1) 2 (by omega) (Nat.le_refl 2) (by decide) (fun e h1 h2 => absurd h1 (by omega))
  · have h : an p < 2 := by
      rcases Int32.lt_or_le p 0 with z | z
      · have : an p = 0 := by
          show p.toNatClampNeg = 0
          have h1 := Int32.lt_iff_toInt_lt.mp z
          have e0 : (0 : Int32).toInt = 0 := by decide
          show p.toInt.toNat = 0
          omega
        omega
      · show p.toInt.toNat < 2
        have h2 := mt Int32.le_iff_toInt_le.mpr c
        have e2 : (nI 2).toInt = 2 := by decide
        omega
    have no : isPrB (an p) = false := by unfold isPrB; rw [if_pos h]
    refine z_iconst (v := nI 0) F dX10_isPrime_5 (by decide) ?_
    exact z_zret F false dX10_isPrime_6 rfl rfl ⟨no.symm, rfl⟩
set_option maxRecDepth 100000 in
theorem m_inverse {S : Hs} {b p : Nat} (hb : b < p) (hp1 : 1 < p) (hp : p < 2147483648) : zCt Γ mX10_inverse 0 0 0 0 [.int (nI b), .int (nI p)] S (pI (fun r S' => r = nI (b ^ (p - 2) % p) ∧ S' = S)) := by
  refine zCt.of [some (.int (nI b)), some (.int (nI p)), none, none, none, none, none] pn_X10_inverse rfl (Nat.le_of_ble_eq_true rfl) rfl (fun κ F => ?_)
  generalize hQ : zQ Γ κ (pI (fun r S' => r = nI (b ^ (p - 2) % p) ∧ S' = S)) 0 0 = Q
  have hp64 : (nI p).toInt64 = lN p := nI_l (by omega)
  have hpne : ¬ lN p = 0 := fun z => absurd ((pk_lEQ (a := p) (b := 0) (by omega) (by decide)).mp z) (by omega)
  have hp0 : 0 < p := by omega
  have loop : ∀ (k m s l : Nat), l < 2 ^ k → l < 2147483648 → m < p → s < p → m * s ^ l % p = b ^ (p - 2) % p → zX Γ κ S 0 0 Q 11 [some (.int (nI b)), some (.int (nI p)), some (.long (lN m)), none, some (.long (lN s)), none, some (.int (nI l))] [] := by
    intro k
    induction k with
    | zero =>
      intro m s l hk hl hm hs hv
      have h0 : l = 0 := by omega
      subst h0
      rw [Nat.pow_zero, Nat.mul_one, Nat.mod_eq_of_lt hm] at hv
      refine z_iload F dX10_inverse_11 rfl ?_
      refine z_if_le (tgt := 51) F dX10_inverse_13 (by decide) (fun c => ?_) (fun c => ?_)
      · subst hQ
        refine z_lload_n F dX10_inverse_51 rfl ?_
        refine z_l2i F dX10_inverse_52 ?_
        refine z_ti (lN_i _) ?_
        exact z_iret F dX10_inverse_53 rfl ⟨by rw [hv], rfl⟩
      · exact absurd (show nI 0 ≤ 0 by decide) c
    | succ k ih =>
      intro m s l hk hl hm hs hv
      rw [Nat.pow_succ] at hk
      have hss := mulmod_lt hs hs hp
      have hms := mulmod_lt hm hs hp
      refine z_iload F dX10_inverse_11 rfl ?_
      refine z_if_le (tgt := 51) F dX10_inverse_13 (by decide) (fun c => ?_) (fun c => ?_)
      · have h0 : l = 0 := (nI_le0 hl).mp c
        subst h0
        rw [Nat.pow_zero, Nat.mul_one, Nat.mod_eq_of_lt hm] at hv
        subst hQ
        refine z_lload_n F dX10_inverse_51 rfl ?_
        refine z_l2i F dX10_inverse_52 ?_
        refine z_ti (lN_i _) ?_
        exact z_iret F dX10_inverse_53 rfl ⟨by rw [hv], rfl⟩
      · have sq : ∀ (m' : Nat), m' < p → m' * (s * s % p) ^ (l / 2) % p = b ^ (p - 2) % p → zX Γ κ S 0 0 Q 32 [some (.int (nI b)), some (.int (nI p)), some (.long (lN m')), none, some (.long (lN s)), none, some (.int (nI l))] [] := by
          intro m' hm' hv'
          refine z_lload F dX10_inverse_32 rfl ?_
          refine z_lload F dX10_inverse_34 rfl ?_
          refine z_lmul F dX10_inverse_36 ?_
          refine z_tl (lN_mul s s) ?_
          refine z_iload_n F dX10_inverse_37 rfl ?_
          refine z_i2l F dX10_inverse_38 ?_
          refine z_tl hp64 ?_
          refine z_lrem F dX10_inverse_39 hpne ?_
          refine z_tl (pk_lRem hss hp0 (by omega)) ?_
          refine z_lstore_4 F dX10_inverse_40 rfl ?_
          refine z_iload F dX10_inverse_42 rfl ?_
          refine z_iconst (v := nI 1) F dX10_inverse_44 (by decide) ?_
          refine z_ishr F dX10_inverse_45 ?_
          refine z_ti (shr1 hl) ?_
          refine z_istore_6 F dX10_inverse_46 rfl ?_
          refine z_goto (tgt := 11) F dX10_inverse_48 (by decide) ?_
          exact ih m' _ (l / 2) (by omega) (by omega) hm' (Nat.mod_lt _ hp0) hv'
        refine z_iload F dX10_inverse_16 rfl ?_
        refine z_iconst (v := nI 1) F dX10_inverse_18 (by decide) ?_
        refine z_iand F dX10_inverse_19 ?_
        refine z_ti (and1 hl) ?_
        refine z_iconst (v := nI 1) F dX10_inverse_20 (by decide) ?_
        refine z_icmp_ne (tgt := 32) F dX10_inverse_21 (by decide) (fun c2 => ?_) (fun c2 => ?_)
        · have hev : l % 2 = 0 := by
            rcases Nat.mod_two_eq_zero_or_one l with h | h
            · exact h
            · exact absurd (by rw [h]) c2
          exact sq m hm (by rw [pw_even hev]; exact hv)
        · have hod : l % 2 = 1 := by
            rcases Nat.mod_two_eq_zero_or_one l with h | h
            · rw [h] at c2; exact absurd (show ¬ nI 0 = nI 1 by decide) (by simpa using c2)
            · exact h
          refine z_lload_n F dX10_inverse_24 rfl ?_
          refine z_lload F dX10_inverse_25 rfl ?_
          refine z_lmul F dX10_inverse_27 ?_
          refine z_tl (lN_mul m s) ?_
          refine z_iload_n F dX10_inverse_28 rfl ?_
          refine z_i2l F dX10_inverse_29 ?_
          refine z_tl hp64 ?_
          refine z_lrem F dX10_inverse_30 hpne ?_
          refine z_tl (pk_lRem hms hp0 (by omega)) ?_
          refine z_lstore_n_2 F dX10_inverse_31 rfl ?_
          exact sq _ (Nat.mod_lt _ hp0) (by rw [pw_odd hod]; exact hv)
  refine z_lconst (v := lN 1) F dX10_inverse_0 (by decide) ?_
  refine z_lstore_n_2 F dX10_inverse_1 rfl ?_
  refine z_iload_n F dX10_inverse_2 rfl ?_
  refine z_i2l F dX10_inverse_3 ?_
  refine z_tl (nI_l (by omega)) ?_
  refine z_lstore_4 F dX10_inverse_4 rfl ?_
  refine z_iload_n F dX10_inverse_6 rfl ?_
  refine z_iconst (v := nI 2) F dX10_inverse_7 (by decide) ?_
  refine z_isub F dX10_inverse_8 ?_
  refine z_ti (pk_sub (by omega)) ?_
  refine z_istore_6 F dX10_inverse_9 rfl ?_
  exact loop 31 1 b (p - 2) (by omega) (by omega) hp1 hb (by rw [Nat.one_mul])
theorem prB_2 {p : Int32} (h : isPrB (an p) = true) : ∃ P, p = nI P ∧ an p = P ∧ 2 ≤ P ∧ P < 2147483648 := by
  have h2 : 2 ≤ an p := by
    rcases Nat.lt_or_ge (an p) 2 with z | z
    · unfold isPrB at h
      rw [if_pos z] at h
      cases h
    · exact z
  obtain ⟨P, hP, rfl⟩ := nI_of (x := p) (fun z => by
    have h1 := Int32.lt_iff_toInt_lt.mp z
    have e0 : (0 : Int32).toInt = 0 := by decide
    have h3 : 2 ≤ p.toInt.toNat := h2
    omega)
  have e : an (nI P) = P := nI_clamp hP
  rw [e] at h2
  exact ⟨P, rfl, e, h2, hP⟩
set_option maxRecDepth 100000 in
set_option maxHeartbeats 1000000 in
theorem m_rest (hPr : prOk) (x p : Int32) (hR : mR Z a) (hM : rMT a V n T L s) : zCt Γ mX10_rest 2 43 0 0 [.ref (a 0), .int x, .int p] (Z, V) (pI (oX Z a n V 0 (s, opRest s x p))) := by
  refine zCt.of [some (.ref (a 0)), some (.int x), some (.int p), none, none, none] pn_X10_rest rfl (Nat.le_of_ble_eq_true rfl) rfl (fun κ F => ?_)
  obtain ⟨b0, b1, b2, -⟩ := hR.1
  obtain ⟨d1, d2, d3, d4⟩ := hR.2.1
  refine z_aload_n F dX10_rest_0 rfl ?_
  refine z_iconst (v := nI 0) F dX10_rest_1 (by decide) ?_
  refine z_putI F dX10_rest_2 pi_X10_52 (zf_9_6 _) (by assumption) ?_
  obtain ⟨V1, e1, hg, ht, hM⟩ := hM.th0
  refine z_V (Z := Z) e1 ?_
  have hcs := hM.2.2.1.1.2.2.1
  unfold opRest
  refine z_aload_n F dX10_rest_5 rfl ?_
  refine z_iload_n F dX10_rest_6 rfl ?_
  refine z_cVz F (m_isNumber x hR hM) dX10_rest_7 ml_X10_137 ok_X10_isNumber b0 (by decide) rfl rfl rfl (Nat.le_of_ble_eq_true rfl) (by decide) (by decide) (fun r S' hr => ?_)
  obtain ⟨rfl, rfl⟩ := hr
  refine z_if_eq (tgt := 20) F dX10_rest_10 (by decide) (fun c1 => ?_) (fun c1 => ?_)
  · have h := zb_f c1
    rw [if_neg (fun z => h (Bool.and_eq_true_iff.mp z).1)]
    refine z_iconst (v := (-1)) F dX10_rest_20 (by decide) ?_
    exact z_iret F dX10_rest_21 rfl (oX.same hg hM ht)
  · have h1 := zb_t c1
    refine z_iload_n F dX10_rest_13 rfl ?_
    refine z_cSz F (m_isPrime hPr p) dX10_rest_14 ml_X10_210 ok_X10_isPrime rfl rfl rfl (Nat.le_of_ble_eq_true rfl) (by decide) (by decide) (fun r S' hr => ?_)
    obtain ⟨rfl, rfl⟩ := hr
    refine z_if_ne (tgt := 22) F dX10_rest_17 (by decide) (fun c2 => ?_) (fun c2 => ?_)
    · have h2 := zb_t c2
      rw [if_pos (by rw [h1, h2]; rfl)]
      obtain ⟨ja, hja, rfl, eja⟩ := isN_t h1 hcs
      obtain ⟨P, rfl, eP, hP2, hP⟩ := prB_2 h2
      rw [eja, eP]
      have eTa := hM.2.2.2.1 ja hja
      have ina := hR.inb (f := ja) (by omega)
      have rba := hM.2.1.rb (f := ja) (by omega)
      obtain ⟨hux, hvx, -⟩ := hM.2.1.2 ja (by omega)
      rw [eTa] at rba hux hvx
      generalize tn s ja = y at *
      have hp0 : 0 < P := by omega
      have hml := Nat.mod_lt y.2.2 hp0
      have hul := Nat.mod_lt y.2.1 hp0
      have hp64 : (nI P).toInt64 = lN P := nI_l (by omega)
      have hpne : ¬ lN P = 0 := fun z => absurd ((pk_lEQ (a := P) (b := 0) (by omega) (by decide)).mp z) (by omega)
      refine z_aload_n F dX10_rest_22 rfl ?_
      refine z_iconst (v := nI 2) F dX10_rest_23 (by decide) ?_
      refine z_iload_n F dX10_rest_24 rfl ?_
      refine z_imul F dX10_rest_25 ?_
      refine z_ti (pk_mul 2 ja) ?_
      refine z_iconst (v := nI 1) F dX10_rest_26 (by decide) ?_
      refine z_iadd F dX10_rest_27 ?_
      refine z_ti (nI_add _ 1) ?_
      refine z_iload_n F dX10_rest_28 rfl ?_
      refine z_cVi F (m_restBy (s := 2 * ja + 1) (p := P) hR hM.2.1.1 (by omega) hp0 hP) dX10_rest_29 ml_X10_213 ok_X10_restBy b0 (by decide) rfl rfl rfl (Nat.le_of_ble_eq_true rfl) (by decide) (by decide) (fun r S' hr => ?_)
      obtain ⟨rfl, rfl⟩ := hr
      rw [hvx]
      refine z_istore_n_3 F dX10_rest_32 rfl ?_
      refine z_iload_n F dX10_rest_33 rfl ?_
      refine z_if_ne (tgt := 40) F dX10_rest_34 (by decide) (fun c3 => ?_) (fun c3 => ?_)
      · have hne : ¬ y.2.2 % P = 0 := fun z => c3 (by rw [z]; rfl)
        rw [if_neg hne]
        refine z_aload_n F dX10_rest_40 rfl ?_
        refine z_iconst (v := nI 2) F dX10_rest_41 (by decide) ?_
        refine z_iload_n F dX10_rest_42 rfl ?_
        refine z_imul F dX10_rest_43 ?_
        refine z_ti (pk_mul 2 ja) ?_
        refine z_iload_n F dX10_rest_44 rfl ?_
        refine z_cVi F (m_restBy (s := 2 * ja) (p := P) hR hM.2.1.1 (by omega) hp0 hP) dX10_rest_45 ml_X10_213 ok_X10_restBy b0 (by decide) rfl rfl rfl (Nat.le_of_ble_eq_true rfl) (by decide) (by decide) (fun r S' hr => ?_)
        obtain ⟨rfl, rfl⟩ := hr
        rw [hux]
        refine z_i2l F dX10_rest_48 ?_
        refine z_tl (nI_l (by omega)) ?_
        refine z_iload_n F dX10_rest_49 rfl ?_
        refine z_iload_n F dX10_rest_50 rfl ?_
        refine z_cSi F (m_inverse hml (by omega) hP) dX10_rest_51 ml_X10_216 ok_X10_inverse rfl rfl rfl (Nat.le_of_ble_eq_true rfl) (by decide) (by decide) (fun r S' hr => ?_)
        obtain ⟨rfl, rfl⟩ := hr
        obtain ⟨v, hv⟩ : ∃ v, v = (y.2.2 % P) ^ (P - 2) % P := ⟨_, rfl⟩
        have hvl : v < P := by rw [hv]; exact Nat.mod_lt _ hp0
        have hrf : restF y P = y.2.1 % P * v % P := by rw [hv]; rfl
        rw [← hv]
        have hmm := mulmod_lt hul hvl hP
        obtain ⟨w, hw⟩ : ∃ w, w = y.2.1 % P * v % P := ⟨_, rfl⟩
        have hwl : w < P := by rw [hw]; exact Nat.mod_lt _ hp0
        rw [hrf, ← hw]
        have e58 : lN (y.2.1 % P * v) - lN (y.2.1 % P * v) / lN P * lN P = lN w := by rw [hw]; exact pk_lRem hmm hp0 (by omega)
        refine z_i2l F dX10_rest_54 ?_
        refine z_tl (nI_l (by omega)) ?_
        refine z_lmul F dX10_rest_55 ?_
        refine z_tl (lN_mul _ _) ?_
        refine z_iload_n F dX10_rest_56 rfl ?_
        refine z_i2l F dX10_rest_57 ?_
        refine z_tl hp64 ?_
        refine z_lrem F dX10_rest_58 hpne ?_
        refine z_tl e58 ?_
        refine z_lstore_4 F dX10_rest_59 rfl ?_
        refine z_aload_n F dX10_rest_61 rfl ?_
        refine z_getR F dX10_rest_62 gr_X10_13 (by assumption) (by assumption) ?_
        refine z_iload_n F dX10_rest_65 rfl ?_
        refine z_zald F dX10_rest_66 (by assumption) (by assumption) ?_
        refine z_ti rba ?_
        have same : ¬ (y.1 = true ∧ w ≠ 0) → zX Γ κ (Z, V1) 0 0 (zQ Γ κ (pI (oX Z a n V 0 (s, if y.1 = true ∧ w ≠ 0 then nI (P - w) else nI w))) 0 0) 85 [some (.ref (a 0)), some (.int (nI ja)), some (.int (nI P)), some (.int (nI (y.2.2 % P))), some (.long (lN w)), none] [] := by
          intro h
          rw [if_neg h]
          refine z_lload F dX10_rest_85 rfl ?_
          refine z_l2i F dX10_rest_87 ?_
          refine z_ti (lN_i _) ?_
          exact z_iret F dX10_rest_88 rfl (oX.same hg hM ht)
        refine z_if_eq (tgt := 85) F dX10_rest_67 (by decide) (fun c4 => ?_) (fun c4 => ?_)
        · exact same (fun z => zb_f c4 z.1)
        · have h4 := zb_t c4
          refine z_lload F dX10_rest_70 rfl ?_
          refine z_lconst (v := lN 0) F dX10_rest_72 (by decide) ?_
          refine z_lcmp F dX10_rest_73 ?_
          refine z_if_le (tgt := 85) F dX10_rest_74 (by decide) (fun c5 => ?_) (fun c5 => ?_)
          · have h5 := (pk_lLE (by omega) (by decide)).mp ((lg_cmp_le _ _).mp c5)
            exact same (fun z => z.2 (by omega))
          · have h5 : w ≠ 0 := fun z => c5 ((lg_cmp_le _ _).mpr ((pk_lLE (by omega) (by decide)).mpr (by omega)))
            rw [if_pos ⟨h4, h5⟩]
            refine z_iload_n F dX10_rest_77 rfl ?_
            refine z_i2l F dX10_rest_78 ?_
            refine z_tl hp64 ?_
            refine z_lload F dX10_rest_79 rfl ?_
            refine z_lsub F dX10_rest_81 ?_
            refine z_tl (lN_ps (by omega)) ?_
            refine z_goto (tgt := 87) F dX10_rest_82 (by decide) ?_
            refine z_l2i F dX10_rest_87 ?_
            refine z_ti (lN_i _) ?_
            exact z_iret F dX10_rest_88 rfl (oX.same hg hM ht)
      · have he : y.2.2 % P = 0 := (nI_ne0' (by omega)).mp c3
        rw [if_pos he]
        refine z_bipush (v := (-2)) F dX10_rest_37 (by decide) ?_
        exact z_iret F dX10_rest_39 rfl (oX.same hg hM ht)
    · have h := zb_f c2
      rw [if_neg (fun z => h (Bool.and_eq_true_iff.mp z).2)]
      refine z_iconst (v := (-1)) F dX10_rest_20 (by decide) ?_
      exact z_iret F dX10_rest_21 rfl (oX.same hg hM ht)
theorem inI_P (x : Int32) {P : Nat} (h1 : 1 ≤ P) (hP : P < 2147483648) : (decide (nI 0 ≤ x) && decide (x ≤ nI P - nI 1)) = inI x P := by
  unfold inI
  have h0 : (nI 0 : Int32) = 0 := rfl
  rw [h0, pk_sub h1]
  congr 1
  apply decide_eq_decide.mpr
  rw [Int32.lt_iff_toInt_lt, Int32.le_iff_toInt_le, nI_toInt (by omega), nI_toInt (by omega)]
  omega
set_option maxRecDepth 100000 in
set_option maxHeartbeats 1000000 in
theorem m_meet (hPr : prOk) (p r : Int32) (hR : mR Z a) (hM : rMT a V n T L s) (hO : sOk n s) : zCt Γ mX10_meet 2 55 0 0 [.ref (a 0), .int p, .int r] (Z, V) (pI (oX Z a n V 0 (opMeet s p r))) := by
  refine zCt.of [some (.ref (a 0)), some (.int p), some (.int r), none, none, none] pn_X10_meet rfl (Nat.le_of_ble_eq_true rfl) rfl (fun κ F => ?_)
  obtain ⟨b0, b1, b2, -⟩ := hR.1
  refine z_aload_n F dX10_meet_0 rfl ?_
  refine z_iconst (v := nI 0) F dX10_meet_1 (by decide) ?_
  refine z_putI F dX10_meet_2 pi_X10_52 (zf_9_6 _) (by assumption) ?_
  obtain ⟨V1, e1, hg, ht, hM⟩ := hM.th0
  refine z_V (Z := Z) e1 ?_
  unfold opMeet
  refine z_iload_n F dX10_meet_5 rfl ?_
  refine z_cSz F (m_isPrime hPr p) dX10_meet_6 ml_X10_210 ok_X10_isPrime rfl rfl rfl (Nat.le_of_ble_eq_true rfl) (by decide) (by decide) (fun r0 S' hr => ?_)
  obtain ⟨rfl, rfl⟩ := hr
  refine z_if_eq (tgt := 23) F dX10_meet_9 (by decide) (fun c1 => ?_) (fun c1 => ?_)
  · have h := zb_f c1
    rw [if_neg (fun z => h (Bool.and_eq_true_iff.mp z).1)]
    refine z_iconst (v := (-1)) F dX10_meet_23 (by decide) ?_
    exact z_iret F dX10_meet_24 rfl (oX.same hg hM ht)
  · have h1 := zb_t c1
    obtain ⟨P, rfl, eP, hP2, hP⟩ := prB_2 h1
    refine z_iload_n F dX10_meet_12 rfl ?_
    refine z_iconst (v := nI 0) F dX10_meet_13 (by decide) ?_
    refine z_iload_n F dX10_meet_14 rfl ?_
    refine z_iconst (v := nI 1) F dX10_meet_15 (by decide) ?_
    refine z_isub F dX10_meet_16 ?_
    refine z_cSz F (m_isIn r (nI 0) (nI P - nI 1)) dX10_meet_17 ml_X10_119 ok_X10_isIn rfl rfl rfl (Nat.le_of_ble_eq_true rfl) (by decide) (by decide) (fun r0 S' hr => ?_)
    obtain ⟨rfl, rfl⟩ := hr
    rw [inI_P r (by omega) hP]
    rw [eP] at h1 ⊢
    refine z_if_ne (tgt := 25) F dX10_meet_20 (by decide) (fun c2 => ?_) (fun c2 => ?_)
    · have h2 := zb_t c2
      rw [if_pos (by rw [h1, h2]; rfl)]
      obtain ⟨rr, hrr, rfl, err⟩ := inI_t h2 hP
      rw [err]
      have hp0 : 0 < P := by omega
      have hp64 : (nI P).toInt64 = lN P := nI_l (by omega)
      have hpne : ¬ lN P = 0 := fun z => absurd ((pk_lEQ (a := P) (b := 0) (by omega) (by decide)).mp z) (by omega)
      have e111 := hM.2.2.2.2.2.2
      obtain ⟨lj, lm, -⟩ := hM.2.1.2 111 (by decide)
      rw [e111] at lj lm
      have hjm := hO.2.2.2.1
      have hmw := hO.2.2.2.2
      obtain ⟨J, hJ⟩ : ∃ J, J = (tj s).1 := ⟨_, rfl⟩
      obtain ⟨M, hMM⟩ : ∃ M, M = (tj s).2.1 := ⟨_, rfl⟩
      have lj' : L 222 = J := by rw [hJ]; exact lj
      have lm' : L 223 = M := by rw [hMM]; exact lm
      rw [← hJ, ← hMM] at hjm ⊢
      rw [← hMM] at hmw
      have hml := Nat.mod_lt M hp0
      have hjl := Nat.mod_lt J hp0
      refine z_aload_n F dX10_meet_25 rfl ?_
      refine z_sipush (v := nI 223) F dX10_meet_26 (by decide) ?_
      refine z_iload_n F dX10_meet_29 rfl ?_
      refine z_cVi F (m_restBy (s := 223) (p := P) hR hM.2.1.1 (by decide) hp0 hP) dX10_meet_30 ml_X10_213 ok_X10_restBy b0 (by decide) rfl rfl rfl (Nat.le_of_ble_eq_true rfl) (by decide) (by decide) (fun r0 S' hr => ?_)
      obtain ⟨rfl, rfl⟩ := hr
      rw [lm']
      refine z_istore_n_3 F dX10_meet_33 rfl ?_
      refine z_iload_n F dX10_meet_34 rfl ?_
      refine z_if_ne (tgt := 41) F dX10_meet_35 (by decide) (fun c3 => ?_) (fun c3 => ?_)
      · have hne : ¬ M % P = 0 := fun z => c3 (by rw [z]; rfl)
        rw [if_neg hne]
        have hPw : P < 4294967296 ^ 6 := Nat.lt_trans hP (by decide)
        have hMP := mul_lt12 hmw hPw
        refine z_aload_n F dX10_meet_41 rfl ?_
        refine z_sipush (v := nI 224) F dX10_meet_42 (by decide) ?_
        refine z_iload_n F dX10_meet_45 rfl ?_
        refine z_i2l F dX10_meet_46 ?_
        refine z_tl hp64 ?_
        refine z_cVv F (m_setLong (s := 224) (lN P) hR hM.2.1.1 (by decide)) dX10_meet_47 ml_X10_112 ok_X10_setLong b0 (by decide) rfl rfl rfl (Nat.le_of_ble_eq_true rfl) (by decide) (by decide) (fun S' hS' => ?_)
        obtain ⟨V2, rfl, hE2, hG2⟩ := hS'
        rw [lN_abs (by omega)] at hG2
        refine z_aload_n F dX10_meet_50 rfl ?_
        refine z_sipush (v := nI 223) F dX10_meet_51 (by decide) ?_
        refine z_sipush (v := nI 224) F dX10_meet_54 (by decide) ?_
        refine z_sipush (v := nI 226) F dX10_meet_57 (by decide) ?_
        refine z_cVv F (m_times (s := 223) (t := 224) (c := 226) hR hG2 (by decide) (by decide) (by decide) (by decide) (by decide) (by rw [up_ne _ _ (by decide), up_self, lm']; exact lt16 hMP)) dX10_meet_60 ml_X10_102 ok_X10_times b0 (by decide) rfl rfl rfl (Nat.le_of_ble_eq_true rfl) (by decide) (by decide) (fun S' hS' => ?_)
        obtain ⟨V3, rfl, hE3, hG3⟩ := hS'
        rw [up_ne (j := 223) _ _ (by decide), up_self, lm'] at hG3
        have hE := hE2.trans hE3
        have hL3 := hM.2.1.sc hR hE hG3 (fun k hk => by rw [up_ne _ _ (by omega), up_ne _ _ (by omega)])
        have hM3 := hM.view hR hE.m hL3 (fun _ _ => rfl)
        have ht3 : vI V3 9 6 (a 0) = 0 := by rw [hE.i]; exact ht
        have hg3 := hg.trans (gM.ofM hE.m)
        have q226 : va_up (va_up L 224 P) 226 (M * P) 226 = M * P := up_self _ _ _
        have q222 : va_up (va_up L 224 P) 226 (M * P) 222 = J := by rw [up_ne _ _ (by decide), up_ne _ _ (by decide), lj']
        have q223 : va_up (va_up L 224 P) 226 (M * P) 223 = M := by rw [up_ne _ _ (by decide), up_ne _ _ (by decide), lm']
        have qk : ∀ k, k < 224 → va_up (va_up L 224 P) 226 (M * P) k = L k := fun k hk => by rw [up_ne _ _ (by omega), up_ne _ _ (by omega)]
        have hbl := bl448 (lt16 hMP)
        generalize va_up (va_up L 224 P) 226 (M * P) = L3 at *
        refine z_aload_n F dX10_meet_63 rfl ?_
        refine z_sipush (v := nI 226) F dX10_meet_64 (by decide) ?_
        refine z_cVi F (m_bitsOf (s := 226) hR hG3 (by decide)) dX10_meet_67 ml_X10_65 ok_X10_bitsOf b0 (by decide) rfl rfl rfl (Nat.le_of_ble_eq_true rfl) (by decide) (by decide) (fun r0 S' hr => ?_)
        obtain ⟨rfl, rfl⟩ := hr
        rw [q226]
        refine z_sipush (v := nI 192) F dX10_meet_70 (by decide) ?_
        refine z_icmp_le (tgt := 81) F dX10_meet_73 (by decide) (fun c4 => ?_) (fun c4 => ?_)
        · have hw : M * P < 4294967296 ^ 6 := bl192.mp ((nI_leI (by omega) (by decide)).mp c4)
          rw [if_pos hw]
          obtain ⟨ap, hap⟩ : ∃ ap, ap = (rr + P - J % P) % P := ⟨_, rfl⟩
          have hapl : ap < P := by rw [hap]; exact Nat.mod_lt _ hp0
          refine z_iload_n F dX10_meet_81 rfl ?_
          refine z_i2l F dX10_meet_82 ?_
          refine z_tl (nI_l (by omega)) ?_
          refine z_aload_n F dX10_meet_83 rfl ?_
          refine z_sipush (v := nI 222) F dX10_meet_84 (by decide) ?_
          refine z_iload_n F dX10_meet_87 rfl ?_
          refine z_cVi F (m_restBy (s := 222) (p := P) hR hG3 (by decide) hp0 hP) dX10_meet_88 ml_X10_213 ok_X10_restBy b0 (by decide) rfl rfl rfl (Nat.le_of_ble_eq_true rfl) (by decide) (by decide) (fun r0 S' hr => ?_)
          obtain ⟨rfl, rfl⟩ := hr
          rw [q222]
          have e98 : lN (rr + P - J % P) - lN (rr + P - J % P) / lN P * lN P = lN ap := by rw [hap]; exact pk_lRem (by omega) hp0 (by omega)
          refine z_i2l F dX10_meet_91 ?_
          refine z_tl (nI_l (by omega)) ?_
          refine z_lsub F dX10_meet_92 ?_
          refine z_iload_n F dX10_meet_93 rfl ?_
          refine z_i2l F dX10_meet_94 ?_
          refine z_tl hp64 ?_
          refine z_ladd F dX10_meet_95 ?_
          refine z_tl (lN_sap (by omega)) ?_
          refine z_iload_n F dX10_meet_96 rfl ?_
          refine z_i2l F dX10_meet_97 ?_
          refine z_tl hp64 ?_
          refine z_lrem F dX10_meet_98 hpne ?_
          refine z_tl e98 ?_
          refine z_lstore_4 F dX10_meet_99 rfl ?_
          refine z_aload_n F dX10_meet_101 rfl ?_
          refine z_sipush (v := nI 224) F dX10_meet_102 (by decide) ?_
          refine z_lload F dX10_meet_105 rfl ?_
          refine z_iload_n F dX10_meet_107 rfl ?_
          refine z_iload_n F dX10_meet_108 rfl ?_
          refine z_cSi F (m_inverse hml (by omega) hP) dX10_meet_109 ml_X10_216 ok_X10_inverse rfl rfl rfl (Nat.le_of_ble_eq_true rfl) (by decide) (by decide) (fun r0 S' hr => ?_)
          obtain ⟨rfl, rfl⟩ := hr
          obtain ⟨v, hv⟩ : ∃ v, v = (M % P) ^ (P - 2) % P := ⟨_, rfl⟩
          have hvl : v < P := by rw [hv]; exact Nat.mod_lt _ hp0
          rw [← hv]
          have hmm := mulmod_lt hapl hvl hP
          obtain ⟨K, hK⟩ : ∃ K, K = jnK J M P rr := ⟨_, rfl⟩
          have hK' : ap * v % P = K := by rw [hK, hap, hv]; rfl
          have hKl : K < P := by rw [← hK']; exact Nat.mod_lt _ hp0
          have e116 : lN (ap * v) - lN (ap * v) / lN P * lN P = lN K := by rw [← hK']; exact pk_lRem hmm hp0 (by omega)
          rw [← hK]
          refine z_i2l F dX10_meet_112 ?_
          refine z_tl (nI_l (by omega)) ?_
          refine z_lmul F dX10_meet_113 ?_
          refine z_tl (lN_mul _ _) ?_
          refine z_iload_n F dX10_meet_114 rfl ?_
          refine z_i2l F dX10_meet_115 ?_
          refine z_tl hp64 ?_
          refine z_lrem F dX10_meet_116 hpne ?_
          refine z_tl e116 ?_
          refine z_cVv F (m_setLong (s := 224) (lN K) hR hG3 (by decide)) dX10_meet_117 ml_X10_112 ok_X10_setLong b0 (by decide) rfl rfl rfl (Nat.le_of_ble_eq_true rfl) (by decide) (by decide) (fun S' hS' => ?_)
          obtain ⟨V4, rfl, hE4, hG4⟩ := hS'
          rw [lN_abs (by omega)] at hG4
          have hMK : M * K ≤ M * P := Nat.mul_le_mul_left M (Nat.le_of_lt hKl)
          have hMKl := Nat.lt_of_le_of_lt hMK hMP
          refine z_aload_n F dX10_meet_120 rfl ?_
          refine z_sipush (v := nI 223) F dX10_meet_121 (by decide) ?_
          refine z_sipush (v := nI 224) F dX10_meet_124 (by decide) ?_
          refine z_sipush (v := nI 225) F dX10_meet_127 (by decide) ?_
          refine z_cVv F (m_times (s := 223) (t := 224) (c := 225) hR hG4 (by decide) (by decide) (by decide) (by decide) (by decide) (by rw [up_ne _ _ (by decide), up_self, q223]; exact lt16 hMKl)) dX10_meet_130 ml_X10_102 ok_X10_times b0 (by decide) rfl rfl rfl (Nat.le_of_ble_eq_true rfl) (by decide) (by decide) (fun S' hS' => ?_)
          obtain ⟨V5, rfl, hE5, hG5⟩ := hS'
          rw [up_ne (j := 223) _ _ (by decide), up_self, q223] at hG5
          have hJl : J < 4294967296 ^ 12 := lt12 (Nat.lt_trans hjm hmw)
          refine z_aload_n F dX10_meet_133 rfl ?_
          refine z_sipush (v := nI 222) F dX10_meet_134 (by decide) ?_
          refine z_sipush (v := nI 225) F dX10_meet_137 (by decide) ?_
          refine z_sipush (v := nI 222) F dX10_meet_140 (by decide) ?_
          refine z_cVv F (m_plus (s := 222) (t := 225) (c := 222) hR hG5 (by decide) (by decide) (by decide) (by rw [up_ne _ _ (by decide), up_ne _ _ (by decide), up_self, q222]; exact lt16a hJl hMKl)) dX10_meet_143 ml_X10_106 ok_X10_plus b0 (by decide) rfl rfl rfl (Nat.le_of_ble_eq_true rfl) (by decide) (by decide) (fun S' hS' => ?_)
          obtain ⟨V6, rfl, hE6, hG6⟩ := hS'
          rw [up_ne (j := 222) _ _ (by decide), up_ne (j := 222) _ _ (by decide), up_self, q222] at hG6
          refine z_aload_n F dX10_meet_146 rfl ?_
          refine z_sipush (v := nI 226) F dX10_meet_147 (by decide) ?_
          refine z_sipush (v := nI 223) F dX10_meet_150 (by decide) ?_
          refine z_cVv F (m_carryOver (s := 226) (t := 223) hR hG6 (by decide) (by decide)) dX10_meet_153 ml_X10_82 ok_X10_carryOver b0 (by decide) rfl rfl rfl (Nat.le_of_ble_eq_true rfl) (by decide) (by decide) (fun S' hS' => ?_)
          obtain ⟨V7, rfl, hE7, hG7⟩ := hS'
          rw [up_ne (j := 226) _ _ (by decide), up_ne (j := 226) _ _ (by decide), up_ne (j := 226) _ _ (by decide), q226] at hG7
          have hE37 := ((hE4.trans hE5).trans hE6).trans hE7
          have hL7 : mL a V7 (va_up T 111 (false, J + M * K, M * P)) (va_up (va_up (va_up (va_up L3 224 K) 225 (M * K)) 222 (J + M * K)) 223 (M * P)) := by
            refine hL3.put (by decide) hG7 (fun k hk h1 h2 => ?_) ?_ ?_ (fun g _ => by rw [hE37.2.1 _ hR.n21]) ?_
            · rw [up_ne _ _ h2, up_ne _ _ h1, up_ne _ _ (by omega), up_ne _ _ (by omega)]
            · rw [up_ne _ _ (by decide), up_self]
            · rw [up_self]
            · rw [hE37.2.1 _ hR.n21, (hL3.2 111 (by decide)).2.2, e111]
          have f7 : ∀ k, vI V7 9 k (a 0) = vI V3 9 k (a 0) := fun k => hE37.i
          obtain ⟨hn, -, hf3, h1', h2', h3', h4'⟩ := hM3
          have i4 : vI V7 9 4 (a 0) = (tj s).2.2 := by rw [f7]; exact hf3.1.2.2.2.1
          obtain ⟨V8, hV8⟩ : ∃ V8, V8 = sI V7 9 4 (a 0) ((tj s).2.2 + 1) := ⟨_, rfl⟩
          have f8 : ∀ k, k ≠ 4 → vI V8 9 k (a 0) = vI V3 9 k (a 0) := fun k hk => by rw [hV8, vI9 _ hk, f7]
          have v84 : vI V8 9 4 (a 0) = (tj s).2.2 + 1 := by rw [hV8]; exact vI_sI_self _ _ _ _ _
          have a8 : ∀ k, 3 ≤ k → k ≤ 11 → vA V8 (a k) = vA V3 (a k) := fun k h1 h2 => by
            rw [hV8]
            exact hE37.m.ar hR h1 h2
          have hM8 : rMT a V8 n (va_up T 111 (false, J + M * K, M * P)) (va_up (va_up (va_up (va_up L3 224 K) 225 (M * K)) 222 (J + M * K)) 223 (M * P)) (wJ s (J + M * K, M * P, (tj s).2.2 + 1)) := by
            obtain ⟨⟨i2, i3, i40, -, i5⟩, hv, hx⟩ := hf3
            have i40' : tc s ≤ 40 := i40
            refine ⟨hn, by rw [hV8]; exact hL7, ⟨⟨?_, ?_, i40, v84, ?_⟩, ?_, ?_⟩, fun i hi => ?_, fun p k hp hk => ?_, fun v hv hv1 j hj => ?_, up_self _ _ _⟩
            · rw [f8 _ (by decide)]; exact i2
            · rw [f8 _ (by decide)]; exact i3
            · rw [f8 _ (by decide)]; exact i5
            · exact hv.of (fun k h1 h2 => f8 k (by omega)) (fun k h1 h2 => a8 k h1 (by omega))
            · exact hx.of (f8 _ (by decide)) (a8 10 (by decide) (by decide))
            · have hi' : i < tc s := hi
              rw [up_ne _ _ (by omega)]; exact h1' i hi
            · rw [up_ne _ _ (by omega)]; exact h2' p k hp hk
            · rw [up_ne _ _ (by omega)]; exact h3' v hv hv1 j hj
          have ht8 : vI V8 9 6 (a 0) = 0 := by rw [f8 _ (by decide)]; exact ht3
          have hg8 : gM a V V8 := by rw [hV8]; exact (hg3.trans (gM.ofM hE37.m)).trans (gM.setI V7 _ _)
          refine z_aload_n F dX10_meet_156 rfl ?_
          refine z_dup F dX10_meet_157 rfl ?_
          refine z_getI F dX10_meet_158 gi_X10_219 (by assumption) ?_
          refine z_ti i4 ?_
          refine z_iconst (v := nI 1) F dX10_meet_161 (by decide) ?_
          refine z_iadd F dX10_meet_162 ?_
          refine z_putI F dX10_meet_163 pi_X10_219 (zf_9_4 _) (by assumption) ?_
          refine z_V (Z := Z) (show _ = V8 from hV8.symm) ?_
          refine z_aload_n F dX10_meet_166 rfl ?_
          refine z_getI F dX10_meet_167 gi_X10_219 (by assumption) ?_
          refine z_ti v84 ?_
          exact z_iret F dX10_meet_170 rfl ⟨rfl, _, _, _, rfl, hg8, ht8, hM8⟩
        · have hw : ¬ M * P < 4294967296 ^ 6 := fun z => c4 ((nI_leI (by omega) (by decide)).mpr (bl192.mpr z))
          rw [if_neg hw]
          refine z_aload_n F dX10_meet_76 rfl ?_
          refine z_cVi F (m_grew hR hM3 ht3) dX10_meet_77 ml_X10_153 ok_X10_grew b0 (by decide) rfl rfl rfl (Nat.le_of_ble_eq_true rfl) (by decide) (by decide) (fun r0 S' hr => ?_)
          exact z_iret F dX10_meet_80 rfl (oX.after hg3 hr)
      · have he : M % P = 0 := (nI_ne0' (by omega)).mp c3
        rw [if_pos he]
        refine z_bipush (v := (-5)) F dX10_meet_38 (by decide) ?_
        exact z_iret F dX10_meet_40 rfl (oX.same hg hM ht)
    · have h := zb_f c2
      rw [if_neg (fun z => h (Bool.and_eq_true_iff.mp z).2)]
      refine z_iconst (v := (-1)) F dX10_meet_23 (by decide) ?_
      exact z_iret F dX10_meet_24 rfl (oX.same hg hM ht)
end MOD20
