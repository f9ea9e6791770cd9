/-! ===== Elimination: begin, run, hasAnswers, findUnknowns ===== -/
/-- an array of Fractions, its elements ee -/
def aF (Z : Hz) (a L : Nat) (ee : Nat → Nat) : Prop := zIn Z a 13 ∧ zn Z a = L ∧ ∀ i, i < L → zA Z a i = some (ee i) ∧ zIn Z (ee i) 3
section ELIM3
variable {Γ : Gm} {Z : Hz} {V : Hv} {T : Nat → Fr} {X : Nat → Nat} {uo vo w we ee : Nat → Nat} {E n A wk ra co fa pd re : Nat} {ro cc : Nat → Nat} {t : Nat} {od : Bool} {M : Mx}
set_option maxRecDepth 100000 in
set_option maxHeartbeats 1000000 in
theorem c_begin (hK : KS Z uo vo w V T X) (hJ : wInj Z) (hS : fS Z uo vo w) (hR : eR Z E n A wk ra co fa pd we) (hn0 : vI V 2 0 E = nI n) (hre : aF Z re (n * (n + 1)) ee) (hew : ∀ i k, i < n * (n + 1) → k < n * (n + 1) → ee i ≠ we k) : zCt Γ mX2_begin 4 103 0 0 [.ref E, .ref re] (Z, V) (pV (fun S' => ∃ V' T', S' = (Z, V') ∧ KS Z uo vo w V' T' X ∧ gE Z E ra co V V' ∧ tS we n fa pd T T' ∧ eI V' E n ra co (fun i => i) 0 (fun _ => 0) false ∧ eM T' n we (fun i => i) (fun p k => T (ee (p * (n + 1) + k))))) := by
  refine zCt.of [some (.ref E), some (.ref re), none] pn_X2_begin rfl (Nat.le_of_ble_eq_true rfl) rfl (fun κ F => ?_)
  obtain ⟨⟨b0, b1, b2, b3, b4, b5, b6⟩, ⟨d1, d2, d3, d4, d5, d6, d7, d8⟩, hw, hwi, nfp, nrc, hra, hco, n1, n5⟩ := id hR
  obtain ⟨r1, r2, r3⟩ := hre
  have h30 := nn30 n5
  generalize hQ : zQ Γ κ (pV (fun S' => ∃ V' T', S' = (Z, V') ∧ KS Z uo vo w V' T' X ∧ gE Z E ra co V V' ∧ tS we n fa pd T T' ∧ eI V' E n ra co (fun i => i) 0 (fun _ => 0) false ∧ eM T' n we (fun i => i) (fun p k => T (ee (p * (n + 1) + k))))) 0 0 = Q
  have loop2 : ∀ (d i : Nat) (V1 : Hv) (T1 : Nat → Fr), i + d = n → KS Z uo vo w V1 T1 X → gE Z E ra co V V1 → tS we n fa pd T T1 → vI V1 2 0 E = nI n → (∀ p, p < i → vA V1 ra p = nI p) → eM T1 n we (fun i => i) (fun p k => T (ee (p * (n + 1) + k))) → zX Γ κ (Z, V1) 0 0 Q 37 [some (.ref E), some (.ref re), some (.int (nI i))] [] := by
    intro d
    induction d with
    | zero =>
      intro i V1 T1 hi hK1 hG1 hT1 hn1 hA1 hM1
      refine z_iload_n F dX2_begin_37 rfl ?_
      refine z_aload_n F dX2_begin_38 rfl ?_
      refine z_getI F dX2_begin_39 gi_X2_19 (by assumption) ?_
      refine z_ti hn1 ?_
      refine z_icmp_ge (tgt := 58) F dX2_begin_42 (by decide) (fun c => ?_) (fun c => ?_)
      · obtain ⟨hK2, hG2⟩ := gE.setI2 (E := E) (ra := ra) (co := co) (k := 7) (x := nI 0) hK1
        obtain ⟨hK3, hG3⟩ := gE.setI2 (E := E) (ra := ra) (co := co) (k := 8) (x := nI 0) hK2
        subst hQ
        refine z_aload_n F dX2_begin_58 rfl ?_
        refine z_iconst (v := nI 0) F dX2_begin_59 (by decide) ?_
        refine z_putI F dX2_begin_60 pi_X2_54 (zf_2_7 _) (by assumption) ?_
        refine z_aload_n F dX2_begin_63 rfl ?_
        refine z_iconst (v := nI 0) F dX2_begin_64 (by decide) ?_
        refine z_putI F dX2_begin_65 pi_X2_73 (zf_2_8 (Or.inl rfl)) (by assumption) ?_
        exact z_vret F dX2_begin_68 rfl ⟨_, T1, rfl, hK3, (hG1.trans hG2).trans hG3, hT1, ⟨by rw [vI_sI_ne _ _ (fun z => absurd z.2.1 (by decide)), vI_sI_ne _ _ (fun z => absurd z.2.1 (by decide))]; exact hn1, by rw [vI_sI_ne _ _ (fun z => absurd z.2.1 (by decide)), vI_sI_self], by rw [vI_sI_self]; rfl, fun p hp => ⟨hA1 p (by omega), hp⟩, fun p p' _ _ h => h, fun p hp => absurd hp (Nat.not_lt_zero p), Nat.zero_le n⟩, hM1⟩
      · exact absurd (nI_le (by omega) (by omega)) c
    | succ d ih =>
      intro i V1 T1 hi hK1 hG1 hT1 hn1 hA1 hM1
      have cl : (nI i).toNatClampNeg = i := nI_clamp (by omega)
      refine z_iload_n F dX2_begin_37 rfl ?_
      refine z_aload_n F dX2_begin_38 rfl ?_
      refine z_getI F dX2_begin_39 gi_X2_19 (by assumption) ?_
      refine z_ti hn1 ?_
      refine z_icmp_ge (tgt := 58) F dX2_begin_42 (by decide) (fun c => ?_) (fun c => ?_)
      · exact absurd ((nI_leI (by omega) (by omega)).mp c) (by omega)
      · have inr : vp_in (nI i) (zn Z ra) := by rw [d4]; exact vp_in_nI (by omega) (by omega)
        obtain ⟨hK2, hG2⟩ := gE.setA2 (E := E) (ra := ra) (co := co) (f := upd (vA V1 ra) (nI i).toNatClampNeg (nI i)) hK1 (Or.inl rfl) hra
        refine z_aload_n F dX2_begin_45 rfl ?_
        refine z_getR F dX2_begin_46 gr_X2_35 (by assumption) (by assumption) ?_
        refine z_iload_n F dX2_begin_49 rfl ?_
        refine z_iload_n F dX2_begin_50 rfl ?_
        refine z_iast F dX2_begin_51 (by assumption) inr ?_
        refine z_iinc_2 F dX2_begin_52 rfl ?_
        refine z_goto (tgt := 37) F dX2_begin_55 (by decide) ?_
        rw [show nI i + Int32.ofInt 1 = nI (i + 1) from nI_1 i]
        refine ih (i + 1) _ T1 (by omega) hK2 (hG1.trans hG2) hT1 hn1 (fun p hp => ?_) hM1
        show vA (sA V1 ra _) ra p = _
        rw [vA_sA_self, cl]
        by_cases e : p = i
        · rw [e, pk_us]
        · rw [pk_un e]; exact hA1 p (by omega)
  have loop1 : ∀ (d i : Nat) (V1 : Hv) (T1 : Nat → Fr), i + d = n * (n + 1) → KS Z uo vo w V1 T1 X → gE Z E ra co V V1 → tS we n fa pd T T1 → vI V1 2 0 E = nI n → (∀ k, k < i → T1 (we k) = T (ee k)) → (∀ k, k < n * (n + 1) → T1 (ee k) = T (ee k)) → zX Γ κ (Z, V1) 0 0 Q 2 [some (.ref E), some (.ref re), some (.int (nI i))] [] := by
    intro d
    induction d with
    | zero =>
      intro i V1 T1 hi hK1 hG1 hT1 hn1 hw1 he1
      have hin : i = n * (n + 1) := by omega
      refine z_iload_n F dX2_begin_2 rfl ?_
      refine z_aload_n F dX2_begin_3 rfl ?_
      refine z_getR F dX2_begin_4 gr_X2_31 (by assumption) (by assumption) ?_
      refine z_alen F dX2_begin_7 d1 (by decide) ?_
      refine z_ti (congrArg nI d2) ?_
      refine z_icmp_ge (tgt := 35) F dX2_begin_8 (by decide) (fun c => ?_) (fun c => ?_)
      · refine z_iconst (v := nI 0) F dX2_begin_35 (by decide) ?_
        refine z_istore_n_2 F dX2_begin_36 rfl ?_
        exact loop2 n 0 V1 T1 (by omega) hK1 hG1 hT1 hn1 (fun p hp => absurd hp (Nat.not_lt_zero p)) (fun p k hp hk => hw1 _ (by rw [hin]; exact idx_lt hp hk))
      · exact absurd (nI_le (by omega) (by omega)) c
    | succ d ih =>
      intro i V1 T1 hi hK1 hG1 hT1 hn1 hw1 he1
      have hil : i < n * (n + 1) := by omega
      have cl : (nI i).toNatClampNeg = i := nI_clamp (by omega)
      have inw : vp_in (nI i) (zn Z wk) := by rw [d2]; exact vp_in_nI hil (by omega)
      have inr : vp_in (nI i) (zn Z re) := by rw [r2]; exact vp_in_nI hil (by omega)
      have rw1 : zA Z wk (nI i).toNatClampNeg = some (we i) := by rw [cl]; exact (hw i hil).1
      have rr1 : zA Z re (nI i).toNatClampNeg = some (ee i) := by rw [cl]; exact (r3 i hil).1
      refine z_iload_n F dX2_begin_2 rfl ?_
      refine z_aload_n F dX2_begin_3 rfl ?_
      refine z_getR F dX2_begin_4 gr_X2_31 (by assumption) (by assumption) ?_
      refine z_alen F dX2_begin_7 d1 (by decide) ?_
      refine z_ti (congrArg nI d2) ?_
      refine z_icmp_ge (tgt := 35) F dX2_begin_8 (by decide) (fun c => ?_) (fun c => ?_)
      · exact absurd ((nI_leI (by omega) (by omega)).mp c) (by omega)
      · refine z_iload_n F dX2_begin_11 rfl ?_
        refine z_aload_n F dX2_begin_12 rfl ?_
        refine z_alen F dX2_begin_13 r1 (by decide) ?_
        refine z_ti (congrArg nI r2) ?_
        refine z_icmp_ge (tgt := 35) F dX2_begin_14 (by decide) (fun c2 => ?_) (fun c2 => ?_)
        · exact absurd ((nI_leI (by omega) (by omega)).mp c2) (by omega)
        · refine z_aload_n F dX2_begin_17 rfl ?_
          refine z_getR F dX2_begin_18 gr_X2_31 (by assumption) (by assumption) ?_
          refine z_iload_n F dX2_begin_21 rfl ?_
          refine z_aald F dX2_begin_22 (by assumption) inw rw1 ?_
          refine z_aload_n F dX2_begin_23 rfl ?_
          refine z_iload_n F dX2_begin_24 rfl ?_
          refine z_aald F dX2_begin_25 (by assumption) inr rr1 ?_
          refine z_cVv F (K_copy hK1 hJ hS (hw i hil).2.1 (r3 i hil).2) dX2_begin_26 ml_X2_69 ok_X3_copy (hw i hil).2.1 (by decide) rfl rfl rfl (Nat.le_of_ble_eq_true rfl) (by decide) (by decide) (fun S' hS' => ?_)
          obtain ⟨V2, rfl, hK2, hF2⟩ := hS'
          rw [he1 i hil] at hK2
          refine z_iinc_2 F dX2_begin_29 rfl ?_
          refine z_goto (tgt := 2) F dX2_begin_32 (by decide) ?_
          rw [show nI i + Int32.ofInt 1 = nI (i + 1) from nI_1 i]
          refine ih (i + 1) V2 _ (by omega) hK2 (hG1.trans (gE.ofF hF2)) (hT1.trans (tS.ofWe hil)) ?_ (fun k hk => ?_) (fun k hk => ?_)
          · rw [hF2.g.1 2 0 E (fun z => by rcases z with z | z <;> exact absurd z.1 (by decide))]; exact hn1
          · by_cases e : k = i
            · rw [e, up_self]
            · rw [up_ne _ _ (fun z => e (hwi k i (by omega) hil z))]; exact hw1 k (by omega)
          · rw [up_ne _ _ (hew k i hk hil)]; exact he1 k hk
  refine z_iconst (v := nI 0) F dX2_begin_0 (by decide) ?_
  refine z_istore_n_2 F dX2_begin_1 rfl ?_
  exact loop1 (n * (n + 1)) 0 V T (by omega) hK (eG.refl V) (tS.refl _ _ _ _ _) hn0 (fun k hk => absurd hk (Nat.not_lt_zero k)) (fun _ _ => rfl)
/-- the PIVOTS stand, and their sizes are told -/
def pvt (s : El) : Prop := ∀ p, p < s.2.2.1 → (s.1 p (s.2.2.2.1 p)).2.1 ≠ 0 ∧ s.2.2.2.2.1 p = fsz (s.1 p (s.2.2.2.1 p))
/-- the Elimination stands at s -/
def eO (V : Hv) (T : Nat → Fr) (E n ra co : Nat) (we : Nat → Nat) (s : El) : Prop := eI V E n ra co s.2.1 s.2.2.1 s.2.2.2.1 s.2.2.2.2.2 ∧ eM T n we s.2.1 s.1 ∧ pvt s
set_option maxRecDepth 100000 in
set_option maxHeartbeats 2000000 in
theorem c_run {way e : Nat} (hK : KS Z uo vo w V T X) (hJ : wInj Z) (hA : aR Z A w) (hS : fS Z uo vo w) (hR : eR Z E n A wk ra co fa pd we) (hn0 : vI V 2 0 E = nI n) (hre : aF Z re (n * (n + 1)) ee) (hew : ∀ i k, i < n * (n + 1) → k < n * (n + 1) → ee i ≠ we k) (hway : way ≤ 1) (he : e ≤ n + 1) : zCt Γ mX2_run 6 167 0 0 [.ref E, .ref re, .int (nI way), .int (nI e)] (Z, V) (pZ (fun r S' => ∃ V' T', S' = (Z, V') ∧ KS Z uo vo w V' T' X ∧ gE Z E ra co V V' ∧ tS we n fa pd T T' ∧ ((elim way n e (fun p k => T (ee (p * (n + 1) + k))) = none ∧ r = false ∧ vI V' 2 0 E = nI n) ∨ ∃ s, elim way n e (fun p k => T (ee (p * (n + 1) + k))) = some s ∧ r = true ∧ eO V' T' E n ra co we s))) := by
  refine zCt.of [some (.ref E), some (.ref re), some (.int (nI way)), some (.int (nI e)), none, none, none] pn_X2_run rfl (Nat.le_of_ble_eq_true rfl) rfl (fun κ F => ?_)
  obtain ⟨⟨b0, b1, b2, b3, b4, b5, b6⟩, ⟨d1, d2, d3, d4, d5, d6, d7, d8⟩, hw, hwi, nfp, nrc, hra, hco, n1, n5⟩ := id hR
  obtain ⟨M0, hM0⟩ : ∃ M0 : Mx, M0 = fun p k => T (ee (p * (n + 1) + k)) := ⟨_, rfl⟩
  rw [← hM0]
  generalize hQ : zQ Γ κ (pZ (fun r S' => ∃ V' T', S' = (Z, V') ∧ KS Z uo vo w V' T' X ∧ gE Z E ra co V V' ∧ tS we n fa pd T T' ∧ ((elim way n e M0 = none ∧ r = false ∧ vI V' 2 0 E = nI n) ∨ ∃ s, elim way n e M0 = some s ∧ r = true ∧ eO V' T' E n ra co we s))) 0 0 = Q
  have loop : ∀ (d j : Nat) (V1 : Hv) (T1 : Nat → Fr) (s : El) (l5 l6 : Option Value), j + d = n → KS Z uo vo w V1 T1 X → gE Z E ra co V V1 → tS we n fa pd T T1 → eO V1 T1 E n ra co we s → elJ way n e d j s = elim way n e M0 → zc1 l5 = true → zX Γ κ (Z, V1) 0 0 Q 8 [some (.ref E), some (.ref re), some (.int (nI way)), some (.int (nI e)), some (.int (nI j)), l5, l6] [] := by
    intro d
    induction d with
    | zero =>
      intro j V1 T1 s l5 l6 hj hK1 hG1 hT1 hO1 hsp _
      refine z_iload F dX2_run_8 rfl ?_
      refine z_aload_n F dX2_run_10 rfl ?_
      refine z_getI F dX2_run_11 gi_X2_19 (by assumption) ?_
      refine z_ti hO1.1.1 ?_
      refine z_icmp_ge (tgt := 97) F dX2_run_14 (by decide) (fun c => ?_) (fun c => ?_)
      · subst hQ
        refine z_iconst (v := nI 1) F dX2_run_97 (by decide) ?_
        exact z_zret F true dX2_run_98 rfl rfl ⟨V1, T1, rfl, hK1, hG1, hT1, Or.inr ⟨s, hsp.symm, rfl, hO1⟩⟩
      · exact absurd (nI_le (by omega) (by omega)) c
    | succ d ih =>
      intro j V1 T1 s l5 l6 hj hK1 hG1 hT1 hO1 hsp hl5
      obtain ⟨M, ro, t, cc, sz, od⟩ := s
      obtain ⟨hI1, hM1, hpv⟩ := id hO1
      simp only at hI1 hM1
      have htn := hI1.2.2.2.2.2.2
      have hjn : j < n := by omega
      have hel : elJ way n e (d + 1) j (M, ro, t, cc, sz, od) = match chz M way j (n - t) t none with
        | none => elJ way n e d (j + 1) (M, ro, t, cc, sz, od)
        | some c => match clrA t j e (n - (t + 1)) (t + 1) (swp M c t) with
          | none => none
          | some M2 => elJ way n e d (j + 1) (M2, swp ro c t, t + 1, va_up cc t j, va_up sz t (fsz (M c j)), if c = t then od else !od) := rfl
      rw [hel] at hsp
      refine z_iload F dX2_run_8 rfl ?_
      refine z_aload_n F dX2_run_10 rfl ?_
      refine z_getI F dX2_run_11 gi_X2_19 (by assumption) ?_
      refine z_ti hI1.1 ?_
      refine z_icmp_ge (tgt := 97) F dX2_run_14 (by decide) (fun c => ?_) (fun c => ?_)
      · exact absurd ((nI_leI (by omega) (by omega)).mp c) (by omega)
      · refine z_aload_n F dX2_run_17 rfl ?_
        refine z_iload F dX2_run_18 rfl ?_
        refine z_iload_n F dX2_run_20 rfl ?_
        refine z_cVi F (c_choose hK1 hS hR hI1 hM1 (Nat.le_of_lt hjn) hway) dX2_run_21 ml_X2_46 ok_X2_choose b0 (by decide) rfl rfl rfl (Nat.le_of_ble_eq_true rfl) (by decide) (by decide) (fun r S' hr => ?_)
        obtain ⟨rfl, rfl⟩ := hr
        refine z_istore_5 F dX2_run_24 rfl ?_
        refine z_iload F dX2_run_26 rfl ?_
        cases hch : chz M way j (n - t) t none with
        | none =>
          rw [hch] at hsp
          simp only at hsp
          refine z_if_ge (tgt := 34) F dX2_run_28 (by decide) (fun c2 => ?_) (fun c2 => ?_)
          · exact absurd c2 (by decide)
          · refine z_goto (tgt := 91) F dX2_run_31 (by decide) ?_
            refine z_iinc_4 F dX2_run_91 rfl ?_
            refine z_goto (tgt := 8) F dX2_run_94 (by decide) ?_
            rw [show nI j + Int32.ofInt 1 = nI (j + 1) from nI_1 j]
            exact ih (j + 1) V1 T1 (M, ro, t, cc, sz, od) _ _ (by omega) hK1 hG1 hT1 hO1 hsp rfl
        | some cp =>
          rw [hch] at hsp
          simp only at hsp
          obtain ⟨hc1, hc2, hc3⟩ : t ≤ cp ∧ cp < t + (n - t) ∧ (M cp j).2.1 ≠ 0 := by
            rcases chz_some _ _ _ _ hch with h | h
            · cases h
            · exact h
          have hcn : cp < n := by omega
          have ht : t < n := by omega
          refine z_if_ge (tgt := 34) F dX2_run_28 (by decide) (fun c2 => ?_) (fun c2 => ?_)
          · refine z_aload_n F dX2_run_34 rfl ?_
            refine z_iload F dX2_run_35 rfl ?_
            refine z_iload F dX2_run_37 rfl ?_
            refine z_cVv F (c_bring hK1 hR hI1 hcn ht hjn) dX2_run_39 ml_X2_50 ok_X2_bring b0 (by decide) rfl rfl rfl (Nat.le_of_ble_eq_true rfl) (by decide) (by decide) (fun S' hS' => ?_)
            obtain ⟨V2, rfl, hK2, hI2, hG2⟩ := hS'
            have hM2 : eM T1 n we (swp ro cp t) (swp M cp t) := hM1.swap hcn ht
            have hpiv : (swp M cp t t j).2.1 ≠ 0 := by
              have : swp M cp t t = M cp := by
                unfold swp
                by_cases e : t = cp
                · rw [if_pos e]; rw [e]
                · rw [if_neg e, if_pos rfl]
              rw [this]; exact hc3
            -- the rows behind
            have inner : ∀ (d2 p : Nat) (V3 : Hv) (T3 : Nat → Fr) (M3 : Mx), p + d2 = n → t < p → KS Z uo vo w V3 T3 X → gE Z E ra co V V3 → tS we n fa pd T T3 → eI V3 E n ra co (swp ro cp t) (t + 1) (va_up cc t j) (if cp = t then od else !od) → eM T3 n we (swp ro cp t) M3 → (∀ i, i ≤ t → M3 i = swp M cp t i) → clrA t j e d2 p M3 = clrA t j e (n - (t + 1)) (t + 1) (swp M cp t) → zX Γ κ (Z, V3) 0 0 Q 48 [some (.ref E), some (.ref re), some (.int (nI way)), some (.int (nI e)), some (.int (nI j)), some (.int (encP (some cp))), some (.int (nI p))] [] := by
              intro d2
              induction d2 with
              | zero =>
                intro p V3 T3 M3 hp htp hK3 hG3 hT3 hI3 hM3 hrow hsp3
                rw [← hsp3] at hsp
                simp only [clrA] at hsp
                refine z_iload F dX2_run_48 rfl ?_
                refine z_aload_n F dX2_run_50 rfl ?_
                refine z_getI F dX2_run_51 gi_X2_19 (by assumption) ?_
                refine z_ti hI3.1 ?_
                refine z_icmp_ge (tgt := 91) F dX2_run_54 (by decide) (fun c3 => ?_) (fun c3 => ?_)
                · refine z_iinc_4 F dX2_run_91 rfl ?_
                  refine z_goto (tgt := 8) F dX2_run_94 (by decide) ?_
                  rw [show nI j + Int32.ofInt 1 = nI (j + 1) from nI_1 j]
                  refine ih (j + 1) V3 T3 _ _ _ (by omega) hK3 hG3 hT3 ⟨hI3, hM3, ?_⟩ hsp rfl
                  intro p' hp'
                  simp only at hp' ⊢
                  rw [hrow p' (by omega)]
                  by_cases e : p' = t
                  · subst e
                    rw [up_self, up_self]
                    have e2 : swp M cp p' p' = M cp := by
                      unfold swp
                      by_cases e : p' = cp
                      · rw [if_pos e]; rw [e]
                      · rw [if_neg e, if_pos rfl]
                    rw [e2]
                    exact ⟨hc3, rfl⟩
                  · rw [up_ne _ _ e, up_ne _ _ e]
                    have e2 : swp M cp t p' = M p' := by
                      unfold swp
                      rw [if_neg (by omega), if_neg e]
                    rw [e2]
                    exact hpv p' (by simp only; omega)
                · exact absurd (nI_le (by omega) (by omega)) c3
              | succ d2 ih2 =>
                intro p V3 T3 M3 hp htp hK3 hG3 hT3 hI3 hM3 hrow hsp3
                have hpn : p < n := by omega
                have zp := eR.at hR hI3 hpn (Nat.le_of_lt hjn)
                have eTp := hM3 p j hpn (Nat.le_of_lt hjn)
                have hcl : clrA t j e (d2 + 1) p M3 = if (M3 p j).2.1 = 0 then clrA t j e d2 (p + 1) M3 else match clrR M3 t p j e with
                  | none => none
                  | some M' => clrA t j e d2 (p + 1) M' := rfl
                rw [hcl] at hsp3
                refine z_iload F dX2_run_48 rfl ?_
                refine z_aload_n F dX2_run_50 rfl ?_
                refine z_getI F dX2_run_51 gi_X2_19 (by assumption) ?_
                refine z_ti hI3.1 ?_
                refine z_icmp_ge (tgt := 91) F dX2_run_54 (by decide) (fun c3 => ?_) (fun c3 => ?_)
                · exact absurd ((nI_leI (by omega) (by omega)).mp c3) (by omega)
                · refine z_aload_n F dX2_run_57 rfl ?_
                  refine z_iload F dX2_run_58 rfl ?_
                  refine z_iload F dX2_run_60 rfl ?_
                  refine z_cVr F (c_at hR hI3 hpn (Nat.le_of_lt hjn)) dX2_run_62 ml_X2_57 ok_X2_at b0 (by decide) rfl rfl rfl (Nat.le_of_ble_eq_true rfl) (by decide) (by decide) (fun r S' hr => ?_)
                  obtain ⟨rfl, rfl⟩ := hr
                  refine z_cVz F (K_isZero hK3 hS zp) dX2_run_65 ml_X2_61 ok_X3_isZero zp (by decide) rfl rfl rfl (Nat.le_of_ble_eq_true rfl) (by decide) (by decide) (fun r S' hr => ?_)
                  obtain ⟨rfl, rfl⟩ := hr
                  rw [eTp]
                  refine z_if_ne (tgt := 85) F dX2_run_68 (by decide) (fun c4 => ?_) (fun c4 => ?_)
                  · have hz : (M3 p j).2.1 = 0 := by
                      apply Decidable.byContradiction
                      intro z
                      exact c4 (by simp [z])
                    rw [if_pos hz] at hsp3
                    refine z_iinc_6 F dX2_run_85 rfl ?_
                    refine z_goto (tgt := 48) F dX2_run_88 (by decide) ?_
                    rw [show nI p + Int32.ofInt 1 = nI (p + 1) from nI_1 p]
                    exact ih2 (p + 1) V3 T3 M3 (by omega) (by omega) hK3 hG3 hT3 hI3 hM3 hrow hsp3
                  · have hz : ¬ (M3 p j).2.1 = 0 := fun z => by
                      rw [z] at c4
                      exact absurd c4 (by decide)
                    rw [if_neg hz] at hsp3
                    refine z_aload_n F dX2_run_71 rfl ?_
                    refine z_iload F dX2_run_72 rfl ?_
                    refine z_iload F dX2_run_74 rfl ?_
                    refine z_iload_n F dX2_run_76 rfl ?_
                    refine z_cVz F (c_clearColumn hK3 hJ hA hS hR hI3 hM3 hpn (by omega) hjn he (by rw [hrow t (Nat.le_refl _)]; exact hpiv)) dX2_run_77 ml_X2_65 ok_X2_clearColumn b0 (by decide) rfl rfl rfl (Nat.le_of_ble_eq_true rfl) (by decide) (by decide) (fun r S' hr => ?_)
                    obtain ⟨V4, T4, rfl, hK4, hF4, hT4, hcase⟩ := hr
                    rcases hcase with ⟨hnone, rfl⟩ | ⟨M4, hsome, rfl, hM4⟩
                    · rw [hnone] at hsp3
                      simp only at hsp3
                      rw [← hsp3] at hsp
                      simp only at hsp
                      refine z_if_ne (tgt := 85) F dX2_run_80 (by decide) (fun c5 => ?_) (fun c5 => ?_)
                      · exact absurd rfl c5
                      · subst hQ
                        refine z_iconst (v := nI 0) F dX2_run_83 (by decide) ?_
                        exact z_zret F false dX2_run_84 rfl rfl ⟨V4, T4, rfl, hK4, hG3.trans (gE.ofF hF4), hT3.trans hT4, Or.inl ⟨hsp.symm, rfl, (hI3.keep hF4 hra hco).1⟩⟩
                    · rw [hsome] at hsp3
                      simp only at hsp3
                      refine z_if_ne (tgt := 85) F dX2_run_80 (by decide) (fun c5 => ?_) (fun c5 => ?_)
                      · refine z_iinc_6 F dX2_run_85 rfl ?_
                        refine z_goto (tgt := 48) F dX2_run_88 (by decide) ?_
                        rw [show nI p + Int32.ofInt 1 = nI (p + 1) from nI_1 p]
                        exact ih2 (p + 1) V4 T4 M4 (by omega) (by omega) hK4 (hG3.trans (gE.ofF hF4)) (hT3.trans hT4) (hI3.keep hF4 hra hco) hM4 (fun i hi => by rw [clrR_row hsome i (by omega)]; exact hrow i hi) hsp3
                      · exact absurd c5 (by decide)
            refine z_aload_n F dX2_run_42 rfl ?_
            refine z_getI F dX2_run_43 gi_X2_54 (by assumption) ?_
            refine z_ti hI2.2.1 ?_
            refine z_istore_6 F dX2_run_46 rfl ?_
            exact inner (n - (t + 1)) (t + 1) V2 T1 (swp M cp t) (by omega) (by omega) hK2 (hG1.trans hG2) hT1 hI2 hM2 (fun _ _ => rfl) rfl
          · exact absurd (nI_pos' (by omega)) c2
  refine z_aload_n F dX2_run_0 rfl ?_
  refine z_aload_n F dX2_run_1 rfl ?_
  refine z_cVv F (c_begin hK hJ hS hR hn0 hre hew) dX2_run_2 ml_X2_42 ok_X2_begin b0 (by decide) rfl rfl rfl (Nat.le_of_ble_eq_true rfl) (by decide) (by decide) (fun S' hS' => ?_)
  obtain ⟨V1, T1, rfl, hK1, hG1, hT1, hI1, hM1⟩ := hS'
  rw [← hM0] at hM1
  refine z_iconst (v := nI 0) F dX2_run_5 (by decide) ?_
  refine z_istore_4 F dX2_run_6 rfl ?_
  exact loop n 0 V1 T1 (M0, fun i => i, 0, fun _ => 0, fun _ => 0, false) none none (by omega) hK1 hG1 hT1 ⟨hI1, hM1, fun p hp => absurd hp (Nat.not_lt_zero p)⟩ rfl rfl
set_option maxRecDepth 100000 in
theorem c_hasAnswers {s : El} (hK : KS Z uo vo w V T X) (hS : fS Z uo vo w) (hR : eR Z E n A wk ra co fa pd we) (hO : eO V T E n ra co we s) : zCt Γ mX2_hasAnswers 2 40 0 0 [.ref E] (Z, V) (pZ (q0 Z V (hasA s.1 n (n - s.2.2.1) s.2.2.1))) := by
  refine zCt.of [some (.ref E), none] pn_X2_hasAnswers rfl (Nat.le_of_ble_eq_true rfl) rfl (fun κ F => ?_)
  obtain ⟨⟨b0, b1, b2, b3, b4, b5, b6⟩, -, -, -, -, -, -, -, n1, n5⟩ := id hR
  obtain ⟨hI, hM, -⟩ := hO
  have htn := hI.2.2.2.2.2.2
  have loop : ∀ (d p : Nat), p + d = n → hasA s.1 n d p = hasA s.1 n (n - s.2.2.1) s.2.2.1 → zX Γ κ (Z, V) 0 0 (zQ Γ κ (pZ (q0 Z V (hasA s.1 n (n - s.2.2.1) s.2.2.1))) 0 0) 5 [some (.ref E), some (.int (nI p))] [] := by
    intro d
    induction d with
    | zero =>
      intro p hp hsp
      refine z_iload_n F dX2_hasAnswers_5 rfl ?_
      refine z_aload_n F dX2_hasAnswers_6 rfl ?_
      refine z_getI F dX2_hasAnswers_7 gi_X2_19 (by assumption) ?_
      refine z_ti hI.1 ?_
      refine z_icmp_ge (tgt := 36) F dX2_hasAnswers_10 (by decide) (fun c => ?_) (fun c => ?_)
      · refine z_iconst (v := nI 1) F dX2_hasAnswers_36 (by decide) ?_
        exact z_zret F true dX2_hasAnswers_37 rfl rfl ⟨hsp, rfl⟩
      · exact absurd (nI_le (by omega) (by omega)) c
    | succ d ih =>
      intro p hp hsp
      have hpn : p < n := by omega
      have za := eR.at hR hI hpn (Nat.le_refl n)
      have eT := hM p n hpn (Nat.le_refl n)
      rw [show hasA s.1 n (d + 1) p = if (s.1 p n).2.1 = 0 then hasA s.1 n d (p + 1) else false from rfl] at hsp
      refine z_iload_n F dX2_hasAnswers_5 rfl ?_
      refine z_aload_n F dX2_hasAnswers_6 rfl ?_
      refine z_getI F dX2_hasAnswers_7 gi_X2_19 (by assumption) ?_
      refine z_ti hI.1 ?_
      refine z_icmp_ge (tgt := 36) F dX2_hasAnswers_10 (by decide) (fun c => ?_) (fun c => ?_)
      · exact absurd ((nI_leI (by omega) (by omega)).mp c) (by omega)
      · refine z_aload_n F dX2_hasAnswers_13 rfl ?_
        refine z_iload_n F dX2_hasAnswers_14 rfl ?_
        refine z_aload_n F dX2_hasAnswers_15 rfl ?_
        refine z_getI F dX2_hasAnswers_16 gi_X2_19 (by assumption) ?_
        refine z_ti hI.1 ?_
        refine z_cVr F (c_at hR hI hpn (Nat.le_refl n)) dX2_hasAnswers_19 ml_X2_57 ok_X2_at b0 (by decide) rfl rfl rfl (Nat.le_of_ble_eq_true rfl) (by decide) (by decide) (fun r S' hr => ?_)
        obtain ⟨rfl, rfl⟩ := hr
        refine z_cVz F (K_isZero hK hS za) dX2_hasAnswers_22 ml_X2_61 ok_X3_isZero za (by decide) rfl rfl rfl (Nat.le_of_ble_eq_true rfl) (by decide) (by decide) (fun r S' hr => ?_)
        obtain ⟨rfl, rfl⟩ := hr
        rw [eT]
        refine z_if_ne (tgt := 30) F dX2_hasAnswers_25 (by decide) (fun c2 => ?_) (fun c2 => ?_)
        · have hz : (s.1 p n).2.1 = 0 := by
            apply Decidable.byContradiction
            intro z
            exact c2 (by simp [z])
          rw [if_pos hz] at hsp
          refine z_iinc_1 F dX2_hasAnswers_30 rfl ?_
          refine z_goto (tgt := 5) F dX2_hasAnswers_33 (by decide) ?_
          rw [show nI p + Int32.ofInt 1 = nI (p + 1) from nI_1 p]
          exact ih (p + 1) (by omega) hsp
        · have hz : ¬ (s.1 p n).2.1 = 0 := fun z => by
            rw [z] at c2
            exact absurd c2 (by decide)
          rw [if_neg hz] at hsp
          refine z_iconst (v := nI 0) F dX2_hasAnswers_28 (by decide) ?_
          exact z_zret F false dX2_hasAnswers_29 rfl rfl ⟨hsp, rfl⟩
  refine z_aload_n F dX2_hasAnswers_0 rfl ?_
  refine z_getI F dX2_hasAnswers_1 gi_X2_54 (by assumption) ?_
  refine z_ti hI.2.1 ?_
  refine z_istore_n_1 F dX2_hasAnswers_4 rfl ?_
  exact loop (n - s.2.2.1) s.2.2.1 (by omega) rfl
end ELIM3
