/-! ===== FractionRowsModel: answers, unknown, pivot, joined, part, sign, count, clear ===== -/
section MOD13
variable {Γ : Gm} {Z : Hz} {V : Hv} {a : Nat → Nat} {L : Nat → Nat} {T : Nat → Fr} {f n : Nat} {s : St}
set_option maxRecDepth 100000 in
theorem m_answers (hR : mR Z a) (hM : rMT a V n T L s) : zCt Γ mX10_answers 0 0 0 0 [.ref (a 0)] (Z, V) (pI (oX Z a n V 0 (s, opAns n s))) := by
  refine zCt.of [some (.ref (a 0))] pn_X10_answers rfl (Nat.le_of_ble_eq_true rfl) rfl (fun κ F => ?_)
  obtain ⟨b0, b1, b2, -⟩ := hR.1
  refine z_aload_n F dX10_answers_0 rfl ?_
  refine z_iconst (v := nI 0) F dX10_answers_1 (by decide) ?_
  refine z_putI F dX10_answers_2 pi_X10_52 (zf_9_6 _) (by assumption) ?_
  obtain ⟨V1, e1, hg, ht, hM⟩ := hM.th0
  refine z_V (Z := Z) e1 ?_
  have h2 := hM.2.2.1.1.1
  have hn := hM.1
  obtain ⟨h7, hv⟩ := hM.2.2.1.2.1
  unfold opAns
  refine z_aload_n F dX10_answers_5 rfl ?_
  refine z_getI F dX10_answers_6 gi_X10_180 (by assumption) ?_
  refine z_ti h7 ?_
  cases hs : tv s with
  | none =>
    refine z_if_ne (tgt := 17) F dX10_answers_9 (by decide) (fun c => ?_) (fun c => ?_)
    · exact absurd rfl c
    · refine z_bipush (v := (-5)) F dX10_answers_12 (by decide) ?_
      refine z_goto (tgt := 44) F dX10_answers_14 (by decide) ?_
      exact z_iret F dX10_answers_44 rfl (oX.same hg hM ht)
  | some v =>
    obtain ⟨h8, h9, hle, -⟩ := hv v hs
    dsimp only
    refine z_if_ne (tgt := 17) F dX10_answers_9 (by decide) (fun c => ?_) (fun c => ?_)
    · refine z_aload_n F dX10_answers_17 rfl ?_
      refine z_getI F dX10_answers_18 gi_X10_186 (by assumption) ?_
      refine z_ti h8 ?_
      refine z_if_eq (tgt := 28) F dX10_answers_21 (by decide) (fun c2 => ?_) (fun c2 => ?_)
      · have h := (zb_eq0 _).mp c2
        rw [Bool.not_eq_false'] at h
        rw [if_pos h]
        refine z_aload_n F dX10_answers_28 rfl ?_
        refine z_getI F dX10_answers_29 gi_X10_192 (by assumption) ?_
        refine z_ti h9 ?_
        refine z_aload_n F dX10_answers_32 rfl ?_
        refine z_getI F dX10_answers_33 gi_X10_44 (by assumption) ?_
        refine z_ti h2 ?_
        refine z_icmp_ne (tgt := 43) F dX10_answers_36 (by decide) (fun c3 => ?_) (fun c3 => ?_)
        · have h : ¬ v.2.1 = n := fun e => c3 (by rw [e])
          rw [if_neg h]
          refine z_iconst (v := nI 2) F dX10_answers_43 (by decide) ?_
          exact z_iret F dX10_answers_44 rfl (oX.same hg hM ht)
        · have h : v.2.1 = n := (nI_inj32 (by omega) (by omega)).mp c3
          rw [if_pos h]
          refine z_iconst (v := nI 1) F dX10_answers_39 (by decide) ?_
          refine z_goto (tgt := 44) F dX10_answers_40 (by decide) ?_
          exact z_iret F dX10_answers_44 rfl (oX.same hg hM ht)
      · have h := zb_t c2
        rw [Bool.not_eq_true'] at h
        rw [if_neg (by rw [h]; decide)]
        refine z_iconst (v := nI 0) F dX10_answers_24 (by decide) ?_
        refine z_goto (tgt := 44) F dX10_answers_25 (by decide) ?_
        exact z_iret F dX10_answers_44 rfl (oX.same hg hM ht)
    · exact absurd c (show ¬ zb true = 0 by decide)
set_option maxRecDepth 100000 in
theorem m_unknown (j : Int32) (hR : mR Z a) (hM : rMT a V n T L s) : zCt Γ mX10_unknown 3 66 0 0 [.ref (a 0), .int j] (Z, V) (pI (oX Z a n V 0 (opUnk n s j))) := by
  refine zCt.of [some (.ref (a 0)), some (.int j)] pn_X10_unknown rfl (Nat.le_of_ble_eq_true rfl) rfl (fun κ F => ?_)
  obtain ⟨b0, b1, b2, -⟩ := hR.1
  refine z_aload_n F dX10_unknown_0 rfl ?_
  refine z_iconst (v := nI 0) F dX10_unknown_1 (by decide) ?_
  refine z_putI F dX10_unknown_2 pi_X10_52 (zf_9_6 _) (by assumption) ?_
  obtain ⟨V1, e1, hg, ht, hM⟩ := hM.th0
  refine z_V (Z := Z) e1 ?_
  have h2 := hM.2.2.1.1.1
  have h3 := hM.2.2.1.1.2.1
  have hcs := hM.2.2.1.1.2.2.1
  have hn := hM.1
  obtain ⟨h7, hv⟩ := hM.2.2.1.2.1
  generalize hQ : zQ Γ κ (pI (oX Z a n V 0 (opUnk n s j))) 0 0 = Q
  have no : svT (tv s) = false → zX Γ κ (Z, V1) 0 0 Q 19 [some (.ref (a 0)), some (.int j)] [] := by
    intro h
    subst hQ
    unfold opUnk
    rw [if_neg (by rw [h]; decide)]
    refine z_bipush (v := (-5)) F dX10_unknown_19 (by decide) ?_
    exact z_iret F dX10_unknown_21 rfl (oX.same hg hM ht)
  refine z_aload_n F dX10_unknown_5 rfl ?_
  refine z_getI F dX10_unknown_6 gi_X10_180 (by assumption) ?_
  refine z_ti h7 ?_
  cases hs : tv s with
  | none =>
    refine z_if_eq (tgt := 19) F dX10_unknown_9 (by decide) (fun c => ?_) (fun c => ?_)
    · exact no (by rw [hs]; rfl)
    · exact absurd rfl c
  | some v =>
    obtain ⟨h8, h9, hle, -⟩ := hv v hs
    refine z_if_eq (tgt := 19) F dX10_unknown_9 (by decide) (fun c => ?_) (fun c => ?_)
    · exact absurd c (show ¬ zb true = 0 by decide)
    · refine z_aload_n F dX10_unknown_12 rfl ?_
      refine z_getI F dX10_unknown_13 gi_X10_186 (by assumption) ?_
      refine z_ti h8 ?_
      refine z_if_eq (tgt := 22) F dX10_unknown_16 (by decide) (fun c2 => ?_) (fun c2 => ?_)
      · have h := (zb_eq0 _).mp c2
        rw [Bool.not_eq_false'] at h
        have hT := hM.2.2.2.2.2.1 v hs h
        unfold opUnk at hQ
        rw [hs, if_pos (show svT (some v) = true from h)] at hQ
        refine z_iload_n F dX10_unknown_22 rfl ?_
        refine z_iconst (v := nI 0) F dX10_unknown_23 (by decide) ?_
        refine z_aload_n F dX10_unknown_24 rfl ?_
        refine z_getI F dX10_unknown_25 gi_X10_44 (by assumption) ?_
        refine z_ti h2 ?_
        refine z_iconst (v := nI 1) F dX10_unknown_28 (by decide) ?_
        refine z_isub F dX10_unknown_29 ?_
        refine z_cSz F (m_isIn j (nI 0) (nI n - nI 1)) dX10_unknown_30 ml_X10_119 ok_X10_isIn rfl rfl rfl (Nat.le_of_ble_eq_true rfl) (by decide) (by decide) (fun r S' hr => ?_)
        obtain ⟨rfl, rfl⟩ := hr
        rw [inI_m1 j (show n < 1000 by omega)]
        refine z_if_ne (tgt := 38) F dX10_unknown_33 (by decide) (fun c3 => ?_) (fun c3 => ?_)
        · have h5 := zb_t c3
          rw [if_pos h5] at hQ
          obtain ⟨q, hq, rfl, eq⟩ := inI_t h5 (show n < 2147483648 by omega)
          simp only [eq] at hQ
          rw [← hT q hq] at hQ
          unfold keepC at hQ
          refine z_aload_n F dX10_unknown_38 rfl ?_
          refine z_getI F dX10_unknown_39 gi_X10_116 (by assumption) ?_
          refine z_ti h3 ?_
          refine z_bipush (v := nI 40) F dX10_unknown_42 (by decide) ?_
          refine z_icmp_ne (tgt := 52) F dX10_unknown_44 (by decide) (fun c4 => ?_) (fun c4 => ?_)
          · have h := mt (eq40 hcs).mpr c4
            have h40 := full_f h
            rw [if_neg h] at hQ
            subst hQ
            refine z_aload_n F dX10_unknown_52 rfl ?_
            refine z_bipush (v := nI 100) F dX10_unknown_53 (by decide) ?_
            refine z_iload_n F dX10_unknown_55 rfl ?_
            refine z_iadd F dX10_unknown_56 ?_
            refine z_ti (nI_add 100 _) ?_
            refine z_cVi F (m_asNumber (f := 100 + q) hR hM ht h40 (by omega)) dX10_unknown_57 ml_X10_150 ok_X10_asNumber b0 (by decide) rfl rfl rfl (Nat.le_of_ble_eq_true rfl) (by decide) (by decide) (fun r S' hr => ?_)
            exact z_iret F dX10_unknown_60 rfl (oX.after hg hr)
          · have h := (eq40 hcs).mp c4
            rw [if_pos h] at hQ
            subst hQ
            refine z_bipush (v := (-4)) F dX10_unknown_47 (by decide) ?_
            refine z_goto (tgt := 60) F dX10_unknown_49 (by decide) ?_
            exact z_iret F dX10_unknown_60 rfl (oX.same hg hM ht)
        · have h5 := zb_f c3
          rw [if_neg h5] at hQ
          subst hQ
          refine z_iconst (v := (-1)) F dX10_unknown_36 (by decide) ?_
          exact z_iret F dX10_unknown_37 rfl (oX.same hg hM ht)
      · have h := zb_t c2
        rw [Bool.not_eq_true'] at h
        exact no (by rw [hs]; exact h)
set_option maxRecDepth 100000 in
set_option maxHeartbeats 1000000 in
theorem m_pivot (k what : Int32) (hR : mR Z a) (hM : rMT a V n T L s) : zCt Γ mX10_pivot 1 22 0 0 [.ref (a 0), .int k, .int what] (Z, V) (pI (oX Z a n V 0 (s, opPiv s k what))) := by
  refine zCt.of [some (.ref (a 0)), some (.int k), some (.int what)] pn_X10_pivot rfl (Nat.le_of_ble_eq_true rfl) rfl (fun κ F => ?_)
  obtain ⟨b0, b1, b2, b3, b4, b5, -⟩ := hR.1
  refine z_aload_n F dX10_pivot_0 rfl ?_
  refine z_iconst (v := nI 0) F dX10_pivot_1 (by decide) ?_
  refine z_putI F dX10_pivot_2 pi_X10_52 (zf_9_6 _) (by assumption) ?_
  obtain ⟨V1, e1, hg, ht, hM⟩ := hM.th0
  refine z_V (Z := Z) e1 ?_
  have hn := hM.1
  obtain ⟨h7, hv⟩ := hM.2.2.1.2.1
  obtain ⟨r3, l3⟩ := hR.2.2.1 3 (by decide) (by decide)
  obtain ⟨r4, l4⟩ := hR.2.2.1 4 (by decide) (by decide)
  obtain ⟨r5, l5⟩ := hR.2.2.1 5 (by decide) (by decide)
  unfold opPiv
  refine z_aload_n F dX10_pivot_5 rfl ?_
  refine z_getI F dX10_pivot_6 gi_X10_180 (by assumption) ?_
  refine z_ti h7 ?_
  cases hs : tv s with
  | none =>
    refine z_if_ne (tgt := 15) F dX10_pivot_9 (by decide) (fun c => ?_) (fun c => ?_)
    · exact absurd rfl c
    · refine z_bipush (v := (-5)) F dX10_pivot_12 (by decide) ?_
      exact z_iret F dX10_pivot_14 rfl (oX.same hg hM ht)
  | some v =>
    obtain ⟨h8, h9, hle, hp⟩ := hv v hs
    simp only
    refine z_if_ne (tgt := 15) F dX10_pivot_9 (by decide) (fun c => ?_) (fun c => ?_)
    · refine z_iload_n F dX10_pivot_15 rfl ?_
      refine z_iconst (v := nI 0) F dX10_pivot_16 (by decide) ?_
      refine z_aload_n F dX10_pivot_17 rfl ?_
      refine z_getI F dX10_pivot_18 gi_X10_192 (by assumption) ?_
      refine z_ti h9 ?_
      refine z_iconst (v := nI 1) F dX10_pivot_21 (by decide) ?_
      refine z_isub F dX10_pivot_22 ?_
      refine z_cSz F (m_isIn k (nI 0) (nI v.2.1 - nI 1)) dX10_pivot_23 ml_X10_119 ok_X10_isIn rfl rfl rfl (Nat.le_of_ble_eq_true rfl) (by decide) (by decide) (fun r S' hr => ?_)
      obtain ⟨rfl, rfl⟩ := hr
      rw [inI_m1 k (show v.2.1 < 1000 by omega)]
      refine z_if_eq (tgt := 38) F dX10_pivot_26 (by decide) (fun c2 => ?_) (fun c2 => ?_)
      · have h := zb_f c2
        rw [if_neg h]
        refine z_iconst (v := (-1)) F dX10_pivot_38 (by decide) ?_
        exact z_iret F dX10_pivot_39 rfl (oX.same hg hM ht)
      · have h := zb_t c2
        rw [if_pos h]
        obtain ⟨q, hq, rfl, eq⟩ := inI_t h (show v.2.1 < 2147483648 by omega)
        rw [eq]
        obtain ⟨p3, p4, p5⟩ := hp q hq
        have i3 : vp_in (nI q) (zn Z (a 3)) := by rw [l3]; exact vp_in_nI (by omega) (by decide)
        have i4 : vp_in (nI q) (zn Z (a 4)) := by rw [l4]; exact vp_in_nI (by omega) (by decide)
        have i5 : vp_in (nI q) (zn Z (a 5)) := by rw [l5]; exact vp_in_nI (by omega) (by decide)
        have v3 : vA V1 (a 3) (nI q).toNatClampNeg = nI (v.2.2.1 q) := by rw [nI_clamp (by omega)]; exact p3
        have v4 : vA V1 (a 4) (nI q).toNatClampNeg = nI (v.2.2.2.1 q) := by rw [nI_clamp (by omega)]; exact p4
        have v5 : vA V1 (a 5) (nI q).toNatClampNeg = nI (v.2.2.2.2.1 q) := by rw [nI_clamp (by omega)]; exact p5
        refine z_iload_n F dX10_pivot_29 rfl ?_
        refine z_iconst (v := nI 0) F dX10_pivot_30 (by decide) ?_
        refine z_iconst (v := nI 2) F dX10_pivot_31 (by decide) ?_
        refine z_cSz F (m_isIn what (nI 0) (nI 2)) dX10_pivot_32 ml_X10_119 ok_X10_isIn rfl rfl rfl (Nat.le_of_ble_eq_true rfl) (by decide) (by decide) (fun r S' hr => ?_)
        obtain ⟨rfl, rfl⟩ := hr
        rw [inI_le what (by decide)]
        refine z_if_ne (tgt := 40) F dX10_pivot_35 (by decide) (fun c3 => ?_) (fun c3 => ?_)
        · have h4 := zb_t c3
          obtain ⟨k, hk, rfl, -⟩ := inI_t h4 (by decide)
          match k, hk with
          | 0, _ =>
            rw [if_pos (show nI 0 = 0 from rfl)]
            refine z_iload_n F dX10_pivot_40 rfl ?_
            refine z_if_ne (tgt := 53) F dX10_pivot_41 (by decide) (fun c4 => ?_) (fun c4 => ?_)
            · exact absurd rfl c4
            · refine z_aload_n F dX10_pivot_44 rfl ?_
              refine z_getR F dX10_pivot_45 gr_X10_17 (by assumption) (by assumption) ?_
              refine z_iload_n F dX10_pivot_48 rfl ?_
              refine z_iald F dX10_pivot_49 (by assumption) (by assumption) ?_
              refine z_ti v3 ?_
              refine z_goto (tgt := 73) F dX10_pivot_50 (by decide) ?_
              exact z_iret F dX10_pivot_73 rfl (oX.same hg hM ht)
          | 1, _ =>
            rw [if_neg (show ¬ nI 1 = 0 by decide), if_pos (show nI 1 = 1 from rfl)]
            refine z_iload_n F dX10_pivot_40 rfl ?_
            refine z_if_ne (tgt := 53) F dX10_pivot_41 (by decide) (fun c4 => ?_) (fun c4 => ?_)
            · refine z_iload_n F dX10_pivot_53 rfl ?_
              refine z_iconst (v := nI 1) F dX10_pivot_54 (by decide) ?_
              refine z_icmp_ne (tgt := 67) F dX10_pivot_55 (by decide) (fun c5 => ?_) (fun c5 => ?_)
              · exact absurd rfl c5
              · refine z_aload_n F dX10_pivot_58 rfl ?_
                refine z_getR F dX10_pivot_59 gr_X10_20 (by assumption) (by assumption) ?_
                refine z_iload_n F dX10_pivot_62 rfl ?_
                refine z_iald F dX10_pivot_63 (by assumption) (by assumption) ?_
                refine z_ti v4 ?_
                refine z_goto (tgt := 73) F dX10_pivot_64 (by decide) ?_
                exact z_iret F dX10_pivot_73 rfl (oX.same hg hM ht)
            · exact absurd c4 (by decide)
          | 2, _ =>
            rw [if_neg (show ¬ nI 2 = 0 by decide), if_neg (show ¬ nI 2 = 1 by decide), if_pos (show nI 2 = 2 from rfl)]
            refine z_iload_n F dX10_pivot_40 rfl ?_
            refine z_if_ne (tgt := 53) F dX10_pivot_41 (by decide) (fun c4 => ?_) (fun c4 => ?_)
            · refine z_iload_n F dX10_pivot_53 rfl ?_
              refine z_iconst (v := nI 1) F dX10_pivot_54 (by decide) ?_
              refine z_icmp_ne (tgt := 67) F dX10_pivot_55 (by decide) (fun c5 => ?_) (fun c5 => ?_)
              · refine z_aload_n F dX10_pivot_67 rfl ?_
                refine z_getR F dX10_pivot_68 gr_X10_23 (by assumption) (by assumption) ?_
                refine z_iload_n F dX10_pivot_71 rfl ?_
                refine z_iald F dX10_pivot_72 (by assumption) (by assumption) ?_
                refine z_ti v5 ?_
                exact z_iret F dX10_pivot_73 rfl (oX.same hg hM ht)
              · exact absurd c5 (by decide)
            · exact absurd c4 (by decide)
        · have h4 := zb_f c3
          have hw : ∀ k, k < 3 → ¬ what = nI k := fun k hk e => h4 (by rw [e]; exact inI_nI hk (by decide))
          rw [if_neg (show ¬ what = 0 from hw 0 (by decide)), if_neg (show ¬ what = 1 from hw 1 (by decide)), if_neg (show ¬ what = 2 from hw 2 (by decide))]
          refine z_iconst (v := (-1)) F dX10_pivot_38 (by decide) ?_
          exact z_iret F dX10_pivot_39 rfl (oX.same hg hM ht)
    · exact absurd c (show ¬ zb true = 0 by decide)
set_option maxRecDepth 100000 in
theorem m_joined (what : Int32) (hR : mR Z a) (hM : rMT a V n T L s) : zCt Γ mX10_joined 3 66 0 0 [.ref (a 0), .int what] (Z, V) (pI (oX Z a n V 0 (opJoined s what))) := by
  refine zCt.of [some (.ref (a 0)), some (.int what)] pn_X10_joined rfl (Nat.le_of_ble_eq_true rfl) rfl (fun κ F => ?_)
  obtain ⟨b0, b1, b2, -⟩ := hR.1
  refine z_aload_n F dX10_joined_0 rfl ?_
  refine z_iconst (v := nI 0) F dX10_joined_1 (by decide) ?_
  refine z_putI F dX10_joined_2 pi_X10_52 (zf_9_6 _) (by assumption) ?_
  obtain ⟨V1, e1, hg, ht, hM⟩ := hM.th0
  refine z_V (Z := Z) e1 ?_
  have h3 := hM.2.2.1.1.2.1
  have hcs := hM.2.2.1.1.2.2.1
  unfold opJoined keepC
  refine z_iload_n F dX10_joined_5 rfl ?_
  refine z_iconst (v := nI 0) F dX10_joined_6 (by decide) ?_
  refine z_iconst (v := nI 1) F dX10_joined_7 (by decide) ?_
  refine z_cSz F (m_isIn what (nI 0) (nI 1)) dX10_joined_8 ml_X10_119 ok_X10_isIn rfl rfl rfl (Nat.le_of_ble_eq_true rfl) (by decide) (by decide) (fun r S' hr => ?_)
  obtain ⟨rfl, rfl⟩ := hr
  rw [inI_le what (by decide)]
  refine z_if_ne (tgt := 16) F dX10_joined_11 (by decide) (fun c => ?_) (fun c => ?_)
  · have h := zb_t c
    obtain ⟨q, hq, rfl, -⟩ := inI_t h (by decide)
    have hpart : nI q = 0 ∨ nI q = 1 := by
      match q, hq with
      | 0, _ => exact Or.inl rfl
      | 1, _ => exact Or.inr rfl
    rw [if_pos hpart]
    refine z_aload_n F dX10_joined_16 rfl ?_
    refine z_getI F dX10_joined_17 gi_X10_116 (by assumption) ?_
    refine z_ti h3 ?_
    refine z_bipush (v := nI 40) F dX10_joined_20 (by decide) ?_
    refine z_icmp_ne (tgt := 28) F dX10_joined_22 (by decide) (fun c2 => ?_) (fun c2 => ?_)
    · have h := mt (eq40 hcs).mpr c2
      have h40 := full_f h
      rw [if_neg h]
      refine z_aload_n F dX10_joined_28 rfl ?_
      refine z_bipush (v := nI 105) F dX10_joined_29 (by decide) ?_
      refine z_cVv F (m_nothing (f := 105) hR hM.2.1 (by decide)) dX10_joined_31 ml_X10_48 ok_X10_nothing b0 (by decide) rfl rfl rfl (Nat.le_of_ble_eq_true rfl) (by decide) (by decide) (fun S' hS' => ?_)
      obtain ⟨V2, L2, rfl, hE2, hL2⟩ := hS'
      obtain ⟨c1, c2', -⟩ := hL2.2 111 (by decide)
      obtain ⟨m1, m2, m3⟩ := hL2.2 105 (by decide)
      rw [up_ne _ _ (by decide), hM.2.2.2.2.2.2] at c1 c2'
      rw [up_self] at m1 m2 m3
      obtain ⟨y, hy⟩ : ∃ y, y = if nI q = 0 then (tj s).1 else (tj s).2.1 := ⟨_, rfl⟩
      have hLy : L2 (222 + q) = y := by
        match q, hq, hy with
        | 0, _, hy => rw [hy, if_pos (show nI 0 = 0 from rfl)]; exact c1
        | 1, _, hy => rw [hy, if_neg (show ¬ nI 1 = 0 by decide)]; exact c2'
      refine z_aload_n F dX10_joined_34 rfl ?_
      refine z_sipush (v := nI 222) F dX10_joined_35 (by decide) ?_
      refine z_iload_n F dX10_joined_38 rfl ?_
      refine z_iadd F dX10_joined_39 ?_
      refine z_ti (nI_add 222 _) ?_
      refine z_sipush (v := nI 210) F dX10_joined_40 (by decide) ?_
      refine z_cVv F (m_carryOver (s := 222 + q) (t := 210) hR hL2.1 (by omega) (by decide)) dX10_joined_43 ml_X10_82 ok_X10_carryOver b0 (by decide) rfl rfl rfl (Nat.le_of_ble_eq_true rfl) (by decide) (by decide) (fun S' hS' => ?_)
      obtain ⟨V3, rfl, hE3, hG3⟩ := hS'
      have hL3 : mL a V3 (va_up (va_up T 105 f0) 105 (false, y, 1)) (va_up L2 210 (L2 (222 + q))) := by
        refine hL2.put (by decide) hG3 (fun k hk h1 h2 => up_ne _ _ h1) (by rw [up_self, hLy]) (by rw [up_ne _ _ (by decide)]; exact m2) (fun g hg => by rw [hE3.2.1 _ hR.n21]) (by rw [hE3.2.1 _ hR.n21]; exact m3)
      rw [bx_uu] at hL3
      have hE := hE2.trans hE3.m
      have hM3 := hM.up hR hE hL3 (Or.inr (Or.inr ⟨by decide, by decide⟩))
      refine z_aload_n F dX10_joined_46 rfl ?_
      refine z_bipush (v := nI 105) F dX10_joined_47 (by decide) ?_
      refine z_cVi F (m_asNumber (th := 0) (f := 105) hR hM3 (by rw [hE.i]; exact ht) h40 (by decide)) dX10_joined_49 ml_X10_150 ok_X10_asNumber b0 (by decide) rfl rfl rfl (Nat.le_of_ble_eq_true rfl) (by decide) (by decide) (fun r S' hr => ?_)
      rw [up_self, hy] at hr
      exact z_iret F dX10_joined_52 rfl (oX.after (hg.trans (gM.ofM hE)) hr)
    · have h := (eq40 hcs).mp c2
      rw [if_pos h]
      refine z_bipush (v := (-4)) F dX10_joined_25 (by decide) ?_
      exact z_iret F dX10_joined_27 rfl (oX.same hg hM ht)
  · have h4 := zb_f c
    have hw : ∀ k, k < 2 → ¬ what = nI k := fun k hk e => h4 (by rw [e]; exact inI_nI hk (by decide))
    rw [if_neg (fun z => z.elim (hw 0 (by decide)) (hw 1 (by decide)))]
    refine z_iconst (v := (-1)) F dX10_joined_14 (by decide) ?_
    exact z_iret F dX10_joined_15 rfl (oX.same hg hM ht)
set_option maxRecDepth 100000 in
theorem m_part (hR : mR Z a) (hM : rMT a V n T L s) : zCt Γ mX10_part 2 43 0 0 [.ref (a 0)] (Z, V) (pI (oX Z a n V 0 (opPart s))) := by
  refine zCt.of [some (.ref (a 0)), none] pn_X10_part rfl (Nat.le_of_ble_eq_true rfl) rfl (fun κ F => ?_)
  obtain ⟨b0, b1, b2, -⟩ := hR.1
  refine z_aload_n F dX10_part_0 rfl ?_
  refine z_iconst (v := nI 0) F dX10_part_1 (by decide) ?_
  refine z_putI F dX10_part_2 pi_X10_52 (zf_9_6 _) (by assumption) ?_
  obtain ⟨V1, e1, hg, ht, hM⟩ := hM.th0
  refine z_V (Z := Z) e1 ?_
  obtain ⟨hn, hL, ⟨⟨i2, i3, i40, i4, i5⟩, hv, hx⟩, h1, h2, h3, h4⟩ := hM
  refine z_aload_n F dX10_part_5 rfl ?_
  refine z_getI F dX10_part_6 gi_X10_219 (by assumption) ?_
  refine z_ti i4 ?_
  refine z_istore_n_1 F dX10_part_9 rfl ?_
  refine z_aload_n F dX10_part_10 rfl ?_
  refine z_iconst (v := nI 0) F dX10_part_11 (by decide) ?_
  refine z_putI F dX10_part_12 pi_X10_219 (zf_9_4 _) (by assumption) ?_
  refine z_aload_n F dX10_part_15 rfl ?_
  refine z_bipush (v := nI 111) F dX10_part_16 (by decide) ?_
  refine z_cVv F (m_nothing (f := 111) (T := T) (L := L) hR hL (by decide)) dX10_part_18 ml_X10_48 ok_X10_nothing b0 (by decide) rfl rfl rfl (Nat.le_of_ble_eq_true rfl) (by decide) (by decide) (fun S' hS' => ?_)
  obtain ⟨V2, L2, rfl, hE2, hL2⟩ := hS'
  have fi : ∀ k, vI V2 9 k (a 0) = vI (sI V1 9 4 (a 0) (nI 0)) 9 k (a 0) := fun k => hE2.i 9 k (a 0)
  have hM2 : rMT a V2 n (va_up T 111 f0) L2 (wJ s (0, 1, 0)) := by
    refine ⟨hn, hL2, ⟨⟨?_, ?_, i40, ?_, ?_⟩, ?_, ?_⟩, fun i hi => ?_, fun p k hp hk => ?_, fun v hv hv1 j hj => ?_, up_self _ _ _⟩
    · rw [fi, vI9 V1 (by decide)]; exact i2
    · rw [fi, vI9 V1 (by decide)]; exact i3
    · rw [fi]; exact vI_sI_self _ _ _ _ _
    · rw [fi, vI9 V1 (by decide)]; exact i5
    · exact hv.of (fun k h1 h2 => by rw [fi, vI9 V1 (by omega)]) (fun k h1 h2 => hE2.ar hR h1 (by omega))
    · exact hx.of (by rw [fi, vI9 V1 (by decide)]) (hE2.ar hR (by decide) (by decide))
    · have hi' : i < tc s := hi
      rw [up_ne _ _ (by omega)]; exact h1 i hi
    · rw [up_ne _ _ (by omega)]; exact h2 p k hp hk
    · rw [up_ne _ _ (by omega)]; exact h3 v hv hv1 j hj
  have ht2 : vI V2 9 6 (a 0) = 0 := by rw [fi, vI9 V1 (by decide)]; exact ht
  refine z_iload_n F dX10_part_21 rfl ?_
  exact z_iret F dX10_part_22 rfl ⟨rfl, _, _, _, rfl, (hg.trans (gM.setI V1 _ _)).trans (gM.ofM hE2), ht2, hM2⟩
set_option maxRecDepth 100000 in
theorem m_sign (i : Int32) (hR : mR Z a) (hM : rMT a V n T L s) : zCt Γ mX10_sign 1 22 0 0 [.ref (a 0), .int i] (Z, V) (pI (oX Z a n V 0 (s, opSign s i))) := by
  refine zCt.of [some (.ref (a 0)), some (.int i)] pn_X10_sign rfl (Nat.le_of_ble_eq_true rfl) rfl (fun κ F => ?_)
  obtain ⟨b0, b1, b2, b3, b4, b5, b6, b7, b8, b9, b10, b11⟩ := hR.1
  obtain ⟨d1, d2, -⟩ := hR.2.2.2.1
  refine z_aload_n F dX10_sign_0 rfl ?_
  refine z_iconst (v := nI 0) F dX10_sign_1 (by decide) ?_
  refine z_putI F dX10_sign_2 pi_X10_52 (zf_9_6 _) (by assumption) ?_
  obtain ⟨V1, e1, hg, ht, hM⟩ := hM.th0
  refine z_V (Z := Z) e1 ?_
  obtain ⟨x1, x2, x3⟩ := hM.2.2.1.2.2
  unfold opSign
  refine z_iload_n F dX10_sign_5 rfl ?_
  refine z_iconst (v := nI 0) F dX10_sign_6 (by decide) ?_
  refine z_aload_n F dX10_sign_7 rfl ?_
  refine z_getI F dX10_sign_8 gi_X10_227 (by assumption) ?_
  refine z_ti x1 ?_
  refine z_iconst (v := nI 1) F dX10_sign_11 (by decide) ?_
  refine z_isub F dX10_sign_12 ?_
  refine z_cSz F (m_isIn i (nI 0) (nI (tt s).length - nI 1)) dX10_sign_13 ml_X10_119 ok_X10_isIn rfl rfl rfl (Nat.le_of_ble_eq_true rfl) (by decide) (by decide) (fun r S' hr => ?_)
  obtain ⟨rfl, rfl⟩ := hr
  rw [inI_m1 i (show (tt s).length < 1000 by omega)]
  refine z_if_eq (tgt := 28) F dX10_sign_16 (by decide) (fun c => ?_) (fun c => ?_)
  · have h := zb_f c
    rw [if_neg h]
    refine z_iconst (v := (-1)) F dX10_sign_28 (by decide) ?_
    exact z_iret F dX10_sign_29 rfl (oX.same hg hM ht)
  · have h := zb_t c
    rw [if_pos h]
    obtain ⟨q, hq, rfl, eq⟩ := inI_t h (show (tt s).length < 2147483648 by omega)
    rw [eq]
    have i3 : vp_in (nI q) (zn Z (a 10)) := by rw [d2]; exact vp_in_nI (by omega) (by decide)
    have v3 : vA V1 (a 10) (nI q).toNatClampNeg = nI ((tt s).getD ((tt s).length - 1 - q) 0) := by rw [nI_clamp (by omega)]; exact x3 q hq
    refine z_aload_n F dX10_sign_19 rfl ?_
    refine z_getR F dX10_sign_20 gr_X10_38 (by assumption) (by assumption) ?_
    refine z_iload_n F dX10_sign_23 rfl ?_
    refine z_iald F dX10_sign_24 (by assumption) (by assumption) ?_
    refine z_ti v3 ?_
    refine z_goto (tgt := 29) F dX10_sign_25 (by decide) ?_
    exact z_iret F dX10_sign_29 rfl (oX.same hg hM ht)
set_option maxRecDepth 100000 in
theorem m_count (what : Int32) (hR : mR Z a) (hM : rMT a V n T L s) : zCt Γ mX10_count 0 0 0 0 [.ref (a 0), .int what] (Z, V) (pI (oX Z a n V 0 (s, opCount n s what))) := by
  refine zCt.of [some (.ref (a 0)), some (.int what)] pn_X10_count rfl (Nat.le_of_ble_eq_true rfl) rfl (fun κ F => ?_)
  obtain ⟨b0, b1, b2, -⟩ := hR.1
  refine z_aload_n F dX10_count_0 rfl ?_
  refine z_iconst (v := nI 0) F dX10_count_1 (by decide) ?_
  refine z_putI F dX10_count_2 pi_X10_52 (zf_9_6 _) (by assumption) ?_
  obtain ⟨V1, e1, hg, ht, hM⟩ := hM.th0
  refine z_V (Z := Z) e1 ?_
  obtain ⟨i2, i3, i40, i4, i5⟩ := hM.2.2.1.1
  unfold opCount
  refine z_iload_n F dX10_count_5 rfl ?_
  by_cases w0 : what = 0
  · subst w0
    refine z_tsIn (off := 30) (tgt := 36) F dX10_count_6 (by decide) (by decide) rfl (by decide) ?_
    rw [if_pos rfl]
    refine z_aload_n F dX10_count_36 rfl ?_
    refine z_getI F dX10_count_37 gi_X10_116 (by assumption) ?_
    refine z_ti i3 ?_
    exact z_iret F dX10_count_40 rfl (oX.same hg hM ht)
  · rw [if_neg w0]
    by_cases w1 : what = 1
    · subst w1
      refine z_tsIn (off := 35) (tgt := 41) F dX10_count_6 (by decide) (by decide) rfl (by decide) ?_
      rw [if_pos rfl]
      refine z_aload_n F dX10_count_41 rfl ?_
      refine z_getI F dX10_count_42 gi_X10_219 (by assumption) ?_
      refine z_ti i4 ?_
      exact z_iret F dX10_count_45 rfl (oX.same hg hM ht)
    · rw [if_neg w1]
      by_cases w2 : what = 2
      · subst w2
        refine z_tsIn (off := 40) (tgt := 46) F dX10_count_6 (by decide) (by decide) rfl (by decide) ?_
        rw [if_pos rfl]
        refine z_aload_n F dX10_count_46 rfl ?_
        refine z_getI F dX10_count_47 gi_X10_44 (by assumption) ?_
        refine z_ti i2 ?_
        exact z_iret F dX10_count_50 rfl (oX.same hg hM ht)
      · rw [if_neg w2]
        by_cases w3 : what = 3
        · subst w3
          refine z_tsIn (off := 45) (tgt := 51) F dX10_count_6 (by decide) (by decide) rfl (by decide) ?_
          rw [if_pos rfl]
          refine z_aload_n F dX10_count_51 rfl ?_
          refine z_getI F dX10_count_52 gi_X10_123 (by assumption) ?_
          refine z_ti i5 ?_
          exact z_iret F dX10_count_55 rfl (oX.same hg hM ht)
        · rw [if_neg w3]
          refine z_tsOut (tgt := 56) F dX10_count_6 (toI_out (n := 3) (by decide) (fun k hk => ?_)) (by decide) ?_
          · match k, hk with
            | 0, _ => exact w0
            | 1, _ => exact w1
            | 2, _ => exact w2
            | 3, _ => exact w3
          refine z_iconst (v := (-1)) F dX10_count_56 (by decide) ?_
          exact z_iret F dX10_count_57 rfl (oX.same hg hM ht)
set_option maxRecDepth 100000 in
set_option maxHeartbeats 1000000 in
theorem m_clear (hR : mR Z a) (hM : rMT a V n T L s) : zCt Γ mX10_clear 2 43 0 0 [.ref (a 0)] (Z, V) (pI (oX Z a n V 0 (opClear s))) := by
  refine zCt.of [some (.ref (a 0)), none, none] pn_X10_clear rfl (Nat.le_of_ble_eq_true rfl) rfl (fun κ F => ?_)
  obtain ⟨b0, b1, b2, -⟩ := hR.1
  refine z_aload_n F dX10_clear_0 rfl ?_
  refine z_iconst (v := nI 0) F dX10_clear_1 (by decide) ?_
  refine z_putI F dX10_clear_2 pi_X10_52 (zf_9_6 _) (by assumption) ?_
  obtain ⟨V1, e1, hg, ht, hM⟩ := hM.th0
  refine z_V (Z := Z) e1 ?_
  obtain ⟨hn, hL, ⟨⟨i2, i3, i40, i4, i5⟩, hv, hx⟩, h1, h2, h3, h4⟩ := hM
  refine z_aload_n F dX10_clear_5 rfl ?_
  refine z_getI F dX10_clear_6 gi_X10_116 (by assumption) ?_
  refine z_ti i3 ?_
  refine z_istore_n_1 F dX10_clear_9 rfl ?_
  refine z_aload_n F dX10_clear_10 rfl ?_
  refine z_iconst (v := nI 0) F dX10_clear_11 (by decide) ?_
  refine z_putI F dX10_clear_12 pi_X10_116 (zf_9_3 _) (by assumption) ?_
  refine z_bipush (v := nI 40) F dX10_clear_15 (by decide) ?_
  refine z_istore_n_2 F dX10_clear_17 rfl ?_
  obtain ⟨V2, hV2⟩ : ∃ V2, V2 = sI V1 9 3 (a 0) (nI 0) := ⟨_, rfl⟩
  refine z_V (Z := Z) (show _ = V2 from hV2.symm) ?_
  have hL2 : mL a V2 T L := by rw [hV2]; exact hL
  have hg2 : gM a V V2 := by rw [hV2]; exact hg.trans (gM.setI V1 _ _)
  generalize hQ : zQ Γ κ (pI (oX Z a n V 0 (opClear s))) 0 0 = Q
  have loop : ∀ (d k : Nat) (V3 : Hv) (T3 : Nat → Fr) (L3 : Nat → Nat), k + d = 70 → 40 ≤ k → e2A a V2 V3 → mL a V3 T3 L3 → (∀ q, 40 ≤ q → q < k → T3 q = f0) → zX Γ κ (Z, V3) 0 0 Q 18 [some (.ref (a 0)), some (.int (nI (tc s))), some (.int (nI k))] [] := by
    intro d
    induction d with
    | zero =>
      intro k V3 T3 L3 hk hk4 hE3 hL3 hT3
      refine z_iload_n F dX10_clear_18 rfl ?_
      refine z_bipush (v := nI 70) F dX10_clear_19 (by decide) ?_
      refine z_icmp_ge (tgt := 35) F dX10_clear_21 (by decide) (fun c => ?_) (fun c => ?_)
      · subst hQ
        have j0 : nI 0 = 0 ∨ nI 0 = 1 := Or.inl rfl
        refine z_aload_n F dX10_clear_35 rfl ?_
        refine z_iconst (v := nI 0) F dX10_clear_36 (by decide) ?_
        refine z_putI F dX10_clear_37 pi_X10_180 (zf_9_7 j0) (by assumption) ?_
        refine z_aload_n F dX10_clear_40 rfl ?_
        refine z_iconst (v := nI 0) F dX10_clear_41 (by decide) ?_
        refine z_putI F dX10_clear_42 pi_X10_219 (zf_9_4 _) (by assumption) ?_
        refine z_aload_n F dX10_clear_45 rfl ?_
        refine z_bipush (v := nI 111) F dX10_clear_46 (by decide) ?_
        obtain ⟨V4, hV4⟩ : ∃ V4, V4 = sI (sI V3 9 7 (a 0) (nI 0)) 9 4 (a 0) (nI 0) := ⟨_, rfl⟩
        refine z_V (Z := Z) (show _ = V4 from hV4.symm) ?_
        have hL4 : mL a V4 T3 L3 := by rw [hV4]; exact hL3
        have f4 : ∀ j, j ≠ 7 → j ≠ 4 → vI V4 9 j (a 0) = vI V3 9 j (a 0) := fun j h1 h2 => by rw [hV4, vI9 _ h2, vI9 _ h1]
        refine z_cVv F (m_nothing (f := 111) (T := T3) (L := L3) hR hL4 (by decide)) dX10_clear_48 ml_X10_48 ok_X10_nothing b0 (by decide) rfl rfl rfl (Nat.le_of_ble_eq_true rfl) (by decide) (by decide) (fun S' hS' => ?_)
        obtain ⟨V5, L5, rfl, hE5, hL5⟩ := hS'
        have f5 : ∀ j, j ≠ 7 → j ≠ 4 → j ≠ 3 → vI V5 9 j (a 0) = vI V1 9 j (a 0) := fun j h1 h2 h3 => by rw [hE5.i, f4 j h1 h2, hE3.i, hV2, vI9 _ h3]
        have a5 : ∀ k, 3 ≤ k → k ≤ 11 → vA V5 (a k) = vA V1 (a k) := fun k h1 h2 => by
          rw [hE5.ar hR h1 h2]
          have e : vA V4 (a k) = vA V3 (a k) := by rw [hV4]; rfl
          rw [e, hE3.ar hR h1 h2, hV2]
          rfl
        have hM5 : rMT a V5 n (va_up T3 111 f0) L5 (opClear s).1 := by
          refine ⟨hn, hL5, ⟨⟨?_, ?_, Nat.zero_le _, ?_, ?_⟩, ⟨?_, fun v hv => ?_⟩, ?_⟩, fun i hi => absurd hi (Nat.not_lt_zero i), fun p k hp hk => ?_, fun v hv => ?_, up_self _ _ _⟩
          · rw [f5 2 (by decide) (by decide) (by decide)]; exact i2
          · rw [hE5.i, f4 3 (by decide) (by decide), hE3.i, hV2]; exact vI_sI_self _ _ _ _ _
          · rw [hE5.i, hV4]; exact vI_sI_self _ _ _ _ _
          · rw [f5 5 (by decide) (by decide) (by decide)]; exact i5
          · rw [hE5.i, hV4, vI9 _ (by decide)]; exact vI_sI_self _ _ _ _ _
          · cases hv
          · exact hx.of (f5 20 (by decide) (by decide) (by decide)) (a5 10 (by decide) (by decide))
          · rw [up_ne _ _ (by omega)]; exact hT3 _ (by omega) (by omega)
          · cases hv
        have ht5 : vI V5 9 6 (a 0) = 0 := by rw [f5 6 (by decide) (by decide) (by decide)]; exact ht
        have hg5 : gM a V V5 := by
          refine ((hg2.trans (gM.ofM hE3)).trans ?_).trans (gM.ofM hE5)
          rw [hV4]
          exact (gM.setI V3 _ _).trans (gM.setI _ _ _)
        refine z_iload_n F dX10_clear_51 rfl ?_
        exact z_iret F dX10_clear_52 rfl ⟨rfl, _, _, _, rfl, hg5, ht5, hM5⟩
      · exact absurd (nI_le (a := 70) (by omega) (by omega)) c
    | succ d ih =>
      intro k V3 T3 L3 hk hk4 hE3 hL3 hT3
      refine z_iload_n F dX10_clear_18 rfl ?_
      refine z_bipush (v := nI 70) F dX10_clear_19 (by decide) ?_
      refine z_icmp_ge (tgt := 35) F dX10_clear_21 (by decide) (fun c => ?_) (fun c => ?_)
      · exact absurd ((nI_leI (a := 70) (by omega) (by omega)).mp c) (by omega)
      · refine z_aload_n F dX10_clear_24 rfl ?_
        refine z_iload_n F dX10_clear_25 rfl ?_
        refine z_cVv F (m_nothing (f := k) (T := T3) (L := L3) hR hL3 (by omega)) dX10_clear_26 ml_X10_48 ok_X10_nothing b0 (by decide) rfl rfl rfl (Nat.le_of_ble_eq_true rfl) (by decide) (by decide) (fun S' hS' => ?_)
        obtain ⟨V5, L5, rfl, hE5, hL5⟩ := hS'
        refine z_iinc_2 F dX10_clear_29 rfl ?_
        refine z_goto (tgt := 18) F dX10_clear_32 (by decide) ?_
        rw [show nI k + Int32.ofInt 1 = nI (k + 1) from nI_1 k]
        refine ih (k + 1) V5 _ L5 (by omega) (by omega) (hE3.trans hE5) hL5 (fun q h1 h2 => ?_)
        by_cases e : q = k
        · rw [e, up_self]
        · rw [up_ne _ _ e]; exact hT3 q h1 (by omega)
  exact loop 30 40 V2 T L rfl (Nat.le_refl _) (eG.refl V2) hL2 (fun q h1 h2 => absurd h2 (by omega))
end MOD13
