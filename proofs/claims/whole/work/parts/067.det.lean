/-! ===== Determinants: orders ===== -/
section DET2
variable {Γ : Gm} {Z : Hz} {V : Hv} {T : Nat → Fr} {X : Nat → Nat} {uo vo w ee : Nat → Nat} {n A D oa pr q re : Nat} {o : Nat → Nat} {M : Mx}
set_option maxRecDepth 100000 in
theorem c_inRow {i : Nat} (hD : dR Z D n A oa pr) (hn0 : vI V 1 0 D = nI n) (hO : oO V n oa o) (hre : aF Z re (n * (n + 1)) ee) (hi : i < n) : zCt Γ mX1_inRow 0 0 0 0 [.ref D, .ref re, .int (nI i)] (Z, V) (pR (q0 Z V (ee (i * (n + 1) + o i)))) := by
  refine zCt.of [some (.ref D), some (.ref re), some (.int (nI i))] pn_X1_inRow rfl (Nat.le_of_ble_eq_true rfl) rfl (fun κ F => ?_)
  obtain ⟨⟨b0, b1, b2, b3⟩, ⟨d1, d2, d3⟩, hoa, n1, n5⟩ := id hD
  obtain ⟨r1, r2, r3⟩ := hre
  have h30 := nn30 n5
  have cl : (nI i).toNatClampNeg = i := nI_clamp (by omega)
  have hlt := idx_lt hi (Nat.le_of_lt (hO i hi).2)
  have i1 : vp_in (nI i) (zn Z oa) := by rw [d2]; exact vp_in_nI hi (by omega)
  have e1 : vA V oa (nI i).toNatClampNeg = nI (o i) := by rw [cl]; exact (hO i hi).1
  have i2 : vp_in (nI (i * (n + 1) + o i)) (zn Z re) := by rw [r2]; exact vp_in_nI hlt (by omega)
  have e2 : zA Z re (nI (i * (n + 1) + o i)).toNatClampNeg = some (ee (i * (n + 1) + o i)) := by rw [nI_clamp (by omega)]; exact (r3 _ hlt).1
  refine z_aload_n F dX1_inRow_0 rfl ?_
  refine z_iload_n F dX1_inRow_1 rfl ?_
  refine z_aload_n F dX1_inRow_2 rfl ?_
  refine z_getI F dX1_inRow_3 gi_X1_16 (by assumption) ?_
  refine z_ti hn0 ?_
  refine z_iconst (v := nI 1) F dX1_inRow_6 (by decide) ?_
  refine z_iadd F dX1_inRow_7 ?_
  refine z_ti (nI_add n 1) ?_
  refine z_imul F dX1_inRow_8 ?_
  refine z_ti (pk_mul _ _) ?_
  refine z_aload_n F dX1_inRow_9 rfl ?_
  refine z_getR F dX1_inRow_10 gr_X1_24 (by assumption) (by assumption) ?_
  refine z_iload_n F dX1_inRow_13 rfl ?_
  refine z_iald F dX1_inRow_14 (by assumption) i1 ?_
  refine z_ti e1 ?_
  refine z_iadd F dX1_inRow_15 ?_
  refine z_ti (nI_add _ _) ?_
  refine z_aald F dX1_inRow_16 (by assumption) i2 e2 ?_
  exact z_aret F dX1_inRow_17 rfl (Or.inl ⟨_, rfl⟩) ⟨rfl, rfl⟩
/-- the rows' entries as a matrix -/
abbrev mE (T : Nat → Fr) (n : Nat) (ee : Nat → Nat) : Mx := fun p k => T (ee (p * (n + 1) + k))
set_option maxRecDepth 100000 in
theorem c_meetsZero (hK : KS Z uo vo w V T X) (hS : fS Z uo vo w) (hD : dR Z D n A oa pr) (hn0 : vI V 1 0 D = nI n) (hO : oO V n oa o) (hre : aF Z re (n * (n + 1)) ee) : zCt Γ mX1_meetsZero 2 40 0 0 [.ref D, .ref re] (Z, V) (pZ (q0 Z V (mz (fun i => mE T n ee i (o i)) n 0))) := by
  refine zCt.of [some (.ref D), some (.ref re), none] pn_X1_meetsZero rfl (Nat.le_of_ble_eq_true rfl) rfl (fun κ F => ?_)
  obtain ⟨⟨b0, b1, b2, b3⟩, ⟨d1, d2, d3⟩, hoa, n1, n5⟩ := id hD
  obtain ⟨f, hf⟩ : ∃ f : Nat → Fr, f = fun i => mE T n ee i (o i) := ⟨_, rfl⟩
  rw [← hf]
  generalize hQ : zQ Γ κ (pZ (q0 Z V (mz f n 0))) 0 0 = Q
  have loop : ∀ (d i : Nat), i + d = n → mz f d i = mz f n 0 → zX Γ κ (Z, V) 0 0 Q 2 [some (.ref D), some (.ref re), some (.int (nI i))] [] := by
    intro d
    induction d with
    | zero =>
      intro i hi hsp
      refine z_iload_n F dX1_meetsZero_2 rfl ?_
      refine z_aload_n F dX1_meetsZero_3 rfl ?_
      refine z_getI F dX1_meetsZero_4 gi_X1_16 (by assumption) ?_
      refine z_ti hn0 ?_
      refine z_icmp_ge (tgt := 30) F dX1_meetsZero_7 (by decide) (fun c => ?_) (fun c => ?_)
      · subst hQ
        refine z_iconst (v := nI 0) F dX1_meetsZero_30 (by decide) ?_
        exact z_zret F false dX1_meetsZero_31 rfl rfl ⟨hsp, rfl⟩
      · exact absurd (nI_le (by omega) (by omega)) c
    | succ d ih =>
      intro i hi hsp
      have hin : i < n := by omega
      have ze := (hre.2.2 _ (idx_lt hin (Nat.le_of_lt (hO i hin).2))).2
      have eT : T (ee (i * (n + 1) + o i)) = f i := by rw [hf]
      simp only [mz] at hsp
      refine z_iload_n F dX1_meetsZero_2 rfl ?_
      refine z_aload_n F dX1_meetsZero_3 rfl ?_
      refine z_getI F dX1_meetsZero_4 gi_X1_16 (by assumption) ?_
      refine z_ti hn0 ?_
      refine z_icmp_ge (tgt := 30) F dX1_meetsZero_7 (by decide) (fun c => ?_) (fun c => ?_)
      · exact absurd ((nI_leI (by omega) (by omega)).mp c) (by omega)
      · refine z_aload_n F dX1_meetsZero_10 rfl ?_
        refine z_aload_n F dX1_meetsZero_11 rfl ?_
        refine z_iload_n F dX1_meetsZero_12 rfl ?_
        refine z_cVr F (c_inRow hD hn0 hO hre hin) dX1_meetsZero_13 ml_X1_69 ok_X1_inRow b0 (by decide) rfl rfl rfl (Nat.le_of_ble_eq_true rfl) (by decide) (by decide) (fun r S' hr => ?_)
        obtain ⟨rfl, rfl⟩ := hr
        refine z_cVz F (K_isZero hK hS ze) dX1_meetsZero_16 ml_X1_73 ok_X3_isZero ze (by decide) rfl rfl rfl (Nat.le_of_ble_eq_true rfl) (by decide) (by decide) (fun r S' hr => ?_)
        obtain ⟨rfl, rfl⟩ := hr
        rw [eT]
        refine z_if_eq (tgt := 24) F dX1_meetsZero_19 (by decide) (fun c2 => ?_) (fun c2 => ?_)
        · have h := dz_f c2
          rw [if_neg h] at hsp
          refine z_iinc_2 F dX1_meetsZero_24 rfl ?_
          refine z_goto (tgt := 2) F dX1_meetsZero_27 (by decide) ?_
          rw [show nI i + Int32.ofInt 1 = nI (i + 1) from nI_1 i]
          exact ih (i + 1) (by omega) hsp
        · have h := dz_t c2
          rw [if_pos h] at hsp
          subst hQ
          refine z_iconst (v := nI 1) F dX1_meetsZero_22 (by decide) ?_
          exact z_zret F true dX1_meetsZero_23 rfl rfl ⟨hsp, rfl⟩
  refine z_iconst (v := nI 0) F dX1_meetsZero_0 (by decide) ?_
  refine z_istore_n_2 F dX1_meetsZero_1 rfl ?_
  exact loop n 0 (by omega) rfl
set_option maxRecDepth 100000 in
set_option maxHeartbeats 1000000 in
theorem c_fallsOddly (hD : dR Z D n A oa pr) (hn0 : vI V 1 0 D = nI n) (hO : oO V n oa o) : zCt Γ mX1_fallsOddly 0 0 0 0 [.ref D] (Z, V) (pZ (q0 Z V (odI o n n 0 false))) := by
  refine zCt.of [some (.ref D), none, none, none] pn_X1_fallsOddly rfl (Nat.le_of_ble_eq_true rfl) rfl (fun κ F => ?_)
  obtain ⟨⟨b0, b1, b2, b3⟩, ⟨d1, d2, d3⟩, hoa, n1, n5⟩ := id hD
  generalize hQ : zQ Γ κ (pZ (q0 Z V (odI o n n 0 false))) 0 0 = Q
  have ai : ∀ i, i < n → vp_in (nI i) (zn Z oa) ∧ vA V oa (nI i).toNatClampNeg = nI (o i) := fun i hi => ⟨by rw [d2]; exact vp_in_nI hi (by omega), by rw [nI_clamp (by omega)]; exact (hO i hi).1⟩
  have loop : ∀ (d i : Nat) (b : Bool) (l3 : Option Value), i + d = n → odI o n d i b = odI o n n 0 false → zX Γ κ (Z, V) 0 0 Q 4 [some (.ref D), some (.int (zb b)), some (.int (nI i)), l3] [] := by
    intro d
    induction d with
    | zero =>
      intro i b l3 hi hsp
      refine z_iload_n F dX1_fallsOddly_4 rfl ?_
      refine z_aload_n F dX1_fallsOddly_5 rfl ?_
      refine z_getI F dX1_fallsOddly_6 gi_X1_16 (by assumption) ?_
      refine z_ti hn0 ?_
      refine z_icmp_ge (tgt := 61) F dX1_fallsOddly_9 (by decide) (fun c => ?_) (fun c => ?_)
      · subst hQ
        refine z_iload_n F dX1_fallsOddly_61 rfl ?_
        exact z_zret F b dX1_fallsOddly_62 rfl rfl ⟨hsp, rfl⟩
      · exact absurd (nI_le (by omega) (by omega)) c
    | succ d ih =>
      intro i b l3 hi hsp
      have hin : i < n := by omega
      have inner : ∀ (d2 k : Nat) (b : Bool), k + d2 = n → odI o n d (i + 1) (odK o i d2 k b) = odI o n n 0 false → zX Γ κ (Z, V) 0 0 Q 16 [some (.ref D), some (.int (zb b)), some (.int (nI i)), some (.int (nI k))] [] := by
        intro d2
        induction d2 with
        | zero =>
          intro k b hk hsp
          refine z_iload_n F dX1_fallsOddly_16 rfl ?_
          refine z_aload_n F dX1_fallsOddly_17 rfl ?_
          refine z_getI F dX1_fallsOddly_18 gi_X1_16 (by assumption) ?_
          refine z_ti hn0 ?_
          refine z_icmp_ge (tgt := 55) F dX1_fallsOddly_21 (by decide) (fun c => ?_) (fun c => ?_)
          · refine z_iinc_2 F dX1_fallsOddly_55 rfl ?_
            refine z_goto (tgt := 4) F dX1_fallsOddly_58 (by decide) ?_
            rw [show nI i + Int32.ofInt 1 = nI (i + 1) from nI_1 i]
            exact ih (i + 1) b _ (by omega) hsp
          · exact absurd (nI_le (by omega) (by omega)) c
        | succ d2 ih2 =>
          intro k b hk hsp
          have hkn : k < n := by omega
          simp only [odK] at hsp
          have hoi := (hO i hin).2
          have hok := (hO k hkn).2
          refine z_iload_n F dX1_fallsOddly_16 rfl ?_
          refine z_aload_n F dX1_fallsOddly_17 rfl ?_
          refine z_getI F dX1_fallsOddly_18 gi_X1_16 (by assumption) ?_
          refine z_ti hn0 ?_
          refine z_icmp_ge (tgt := 55) F dX1_fallsOddly_21 (by decide) (fun c => ?_) (fun c => ?_)
          · exact absurd ((nI_leI (by omega) (by omega)).mp c) (by omega)
          · refine z_aload_n F dX1_fallsOddly_24 rfl ?_
            refine z_getR F dX1_fallsOddly_25 gr_X1_24 (by assumption) (by assumption) ?_
            refine z_iload_n F dX1_fallsOddly_28 rfl ?_
            refine z_iald F dX1_fallsOddly_29 (by assumption) (ai i hin).1 ?_
            refine z_ti (ai i hin).2 ?_
            refine z_aload_n F dX1_fallsOddly_30 rfl ?_
            refine z_getR F dX1_fallsOddly_31 gr_X1_24 (by assumption) (by assumption) ?_
            refine z_iload_n F dX1_fallsOddly_34 rfl ?_
            refine z_iald F dX1_fallsOddly_35 (by assumption) (ai k hkn).1 ?_
            refine z_ti (ai k hkn).2 ?_
            refine z_icmp_le (tgt := 49) F dX1_fallsOddly_36 (by decide) (fun c2 => ?_) (fun c2 => ?_)
            · have h := (nI_leI (by omega) (by omega)).mp c2
              rw [if_neg (by omega)] at hsp
              refine z_iinc_3 F dX1_fallsOddly_49 rfl ?_
              refine z_goto (tgt := 16) F dX1_fallsOddly_52 (by decide) ?_
              rw [show nI k + Int32.ofInt 1 = nI (k + 1) from nI_1 k]
              exact ih2 (k + 1) b (by omega) hsp
            · have h : o k < o i := by
                rcases Nat.lt_or_ge (o k) (o i) with h | h
                · exact h
                · exact absurd ((nI_leI (by omega) (by omega)).mpr h) c2
              rw [if_pos h] at hsp
              refine z_iload_n F dX1_fallsOddly_39 rfl ?_
              refine z_if_ne (tgt := 47) F dX1_fallsOddly_40 (by decide) (fun c3 => ?_) (fun c3 => ?_)
              · cases b with
                | false => exact absurd rfl c3
                | true =>
                  refine z_iconst (v := nI 0) F dX1_fallsOddly_47 (by decide) ?_
                  refine z_istore_n_1 F dX1_fallsOddly_48 rfl ?_
                  refine z_iinc_3 F dX1_fallsOddly_49 rfl ?_
                  refine z_goto (tgt := 16) F dX1_fallsOddly_52 (by decide) ?_
                  rw [show nI k + Int32.ofInt 1 = nI (k + 1) from nI_1 k]
                  exact ih2 (k + 1) false (by omega) hsp
              · cases b with
                | false =>
                  refine z_iconst (v := nI 1) F dX1_fallsOddly_43 (by decide) ?_
                  refine z_goto (tgt := 48) F dX1_fallsOddly_44 (by decide) ?_
                  refine z_istore_n_1 F dX1_fallsOddly_48 rfl ?_
                  refine z_iinc_3 F dX1_fallsOddly_49 rfl ?_
                  refine z_goto (tgt := 16) F dX1_fallsOddly_52 (by decide) ?_
                  rw [show nI k + Int32.ofInt 1 = nI (k + 1) from nI_1 k]
                  exact ih2 (k + 1) true (by omega) hsp
                | true => exact absurd c3 (by decide)
      simp only [odI] at hsp
      refine z_iload_n F dX1_fallsOddly_4 rfl ?_
      refine z_aload_n F dX1_fallsOddly_5 rfl ?_
      refine z_getI F dX1_fallsOddly_6 gi_X1_16 (by assumption) ?_
      refine z_ti hn0 ?_
      refine z_icmp_ge (tgt := 61) F dX1_fallsOddly_9 (by decide) (fun c => ?_) (fun c => ?_)
      · exact absurd ((nI_leI (by omega) (by omega)).mp c) (by omega)
      · refine z_iload_n F dX1_fallsOddly_12 rfl ?_
        refine z_iconst (v := nI 1) F dX1_fallsOddly_13 (by decide) ?_
        refine z_iadd F dX1_fallsOddly_14 ?_
        refine z_ti (nI_add i 1) ?_
        refine z_istore_n_3 F dX1_fallsOddly_15 rfl ?_
        exact inner (n - (i + 1)) (i + 1) b (by omega) hsp
  refine z_iconst (v := nI 0) F dX1_fallsOddly_0 (by decide) ?_
  refine z_istore_n_1 F dX1_fallsOddly_1 rfl ?_
  refine z_iconst (v := nI 0) F dX1_fallsOddly_2 (by decide) ?_
  refine z_istore_n_2 F dX1_fallsOddly_3 rfl ?_
  exact loop n 0 false _ (by omega) rfl
set_option maxRecDepth 100000 in
theorem c_swap {i k : Nat} (hK : KS Z uo vo w V T X) (hD : dR Z D n A oa pr) (hO : oO V n oa o) (hi : i < n) (hk : k < n) : zCt Γ mX1_swap 0 0 0 0 [.ref D, .int (nI i), .int (nI k)] (Z, V) (pV (fun S' => ∃ V', S' = (Z, V') ∧ KS Z uo vo w V' T X ∧ gT Z oa V V' ∧ oO V' n oa (swp o i k))) := by
  refine zCt.of [some (.ref D), some (.int (nI i)), some (.int (nI k)), none] pn_X1_swap rfl (Nat.le_of_ble_eq_true rfl) rfl (fun κ F => ?_)
  obtain ⟨⟨b0, b1, b2, b3⟩, ⟨d1, d2, d3⟩, hoa, n1, n5⟩ := id hD
  have ci : (nI i).toNatClampNeg = i := nI_clamp (by omega)
  have ck : (nI k).toNatClampNeg = k := nI_clamp (by omega)
  have ii : vp_in (nI i) (zn Z oa) := by rw [d2]; exact vp_in_nI hi (by omega)
  have ik : vp_in (nI k) (zn Z oa) := by rw [d2]; exact vp_in_nI hk (by omega)
  have ei : vA V oa (nI i).toNatClampNeg = nI (o i) := by rw [ci]; exact (hO i hi).1
  have ek : vA V oa (nI k).toNatClampNeg = nI (o k) := by rw [ck]; exact (hO k hk).1
  obtain ⟨hK2, hG2⟩ := gT.setA1 (f := upd (vA V oa) (nI i).toNatClampNeg (nI (o k))) hK hoa
  obtain ⟨hK3, hG3⟩ := gT.setA1 (f := upd (vA (sA V oa (upd (vA V oa) (nI i).toNatClampNeg (nI (o k)))) oa) (nI k).toNatClampNeg (nI (o i))) hK2 hoa
  have hfin : oO (sA (sA V oa (upd (vA V oa) (nI i).toNatClampNeg (nI (o k)))) oa (upd (vA (sA V oa (upd (vA V oa) (nI i).toNatClampNeg (nI (o k)))) oa) (nI k).toNatClampNeg (nI (o i)))) n oa (swp o i k) := by
    intro p hp
    refine ⟨?_, swp_lt (fun p hp => (hO p hp).2) hi hk p hp⟩
    rw [vA_sA_self, vA_sA_self, ci, ck]
    unfold swp
    by_cases e : p = k
    · subst e
      rw [pk_us]
      by_cases e2 : p = i
      · rw [if_pos e2, e2]
      · rw [if_neg e2, if_pos rfl]
    · rw [pk_un e]
      by_cases e2 : p = i
      · rw [if_pos e2, e2, pk_us]
      · rw [if_neg e2, if_neg e, pk_un e2]; exact (hO p hp).1
  refine z_aload_n F dX1_swap_0 rfl ?_
  refine z_getR F dX1_swap_1 gr_X1_24 (by assumption) (by assumption) ?_
  refine z_iload_n F dX1_swap_4 rfl ?_
  refine z_iald F dX1_swap_5 (by assumption) ii ?_
  refine z_ti ei ?_
  refine z_istore_n_3 F dX1_swap_6 rfl ?_
  refine z_aload_n F dX1_swap_7 rfl ?_
  refine z_getR F dX1_swap_8 gr_X1_24 (by assumption) (by assumption) ?_
  refine z_iload_n F dX1_swap_11 rfl ?_
  refine z_aload_n F dX1_swap_12 rfl ?_
  refine z_getR F dX1_swap_13 gr_X1_24 (by assumption) (by assumption) ?_
  refine z_iload_n F dX1_swap_16 rfl ?_
  refine z_iald F dX1_swap_17 (by assumption) ik ?_
  refine z_ti ek ?_
  refine z_iast F dX1_swap_18 (by assumption) ii ?_
  refine z_aload_n F dX1_swap_19 rfl ?_
  refine z_getR F dX1_swap_20 gr_X1_24 (by assumption) (by assumption) ?_
  refine z_iload_n F dX1_swap_23 rfl ?_
  refine z_iload_n F dX1_swap_24 rfl ?_
  refine z_iast F dX1_swap_25 (by assumption) ik ?_
  exact z_vret F dX1_swap_26 rfl ⟨_, rfl, hK3, hG2.trans hG3, hfin⟩
end DET2
