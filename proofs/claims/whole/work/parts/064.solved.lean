/-! ===== Elimination: findUnknowns; Solved ===== -/
/-- only the Fractions that P names have changed -/
def tN (P : Nat → Prop) (T T' : Nat → Fr) : Prop := ∀ q, ¬ P q → T' q = T q
theorem tN.refl (P : Nat → Prop) (T : Nat → Fr) : tN P T T := fun _ _ => rfl
theorem tN.trans {P : Nat → Prop} {T T1 T2 : Nat → Fr} (h1 : tN P T T1) (h2 : tN P T1 T2) : tN P T T2 := fun q h => (h2 q h).trans (h1 q h)
theorem tN.up {P : Nat → Prop} {T : Nat → Fr} {q : Nat} {x : Fr} (h : P q) : tN P T (va_up T q x) := fun q' h' => up_ne _ _ (fun z => h' (z ▸ h))
theorem zb_f {b : Bool} (h : zb b = 0) : ¬ b = true := by rw [(zb_eq0 b).mp h]; decide
theorem zb_t {b : Bool} (h : ¬ zb b = 0) : b = true := by
  cases b with
  | true => rfl
  | false => exact absurd rfl h
theorem dz_t {x : Nat} (h : ¬ zb (decide (x = 0)) = 0) : x = 0 := by
  apply Decidable.byContradiction
  intro z
  exact h (by simp [z])
theorem dz_f {x : Nat} (h : zb (decide (x = 0)) = 0) : ¬ x = 0 := fun z => by
  rw [z] at h
  exact absurd h (by decide)
section FIND
variable {Γ : Gm} {Z : Hz} {V : Hv} {T : Nat → Fr} {X : Nat → Nat} {uo vo w we uk : Nat → Nat} {E n A wk ra co fa pd ua : Nat}
set_option maxRecDepth 100000 in
set_option maxHeartbeats 2000000 in
theorem c_findUnknowns {s : El} (hK : KS Z uo vo w V T X) (hJ : wInj Z) (hA : aR Z A w) (hS : fS Z uo vo w) (hR : eR Z E n A wk ra co fa pd we) (hO : eO V T E n ra co we s) (hu : aF Z ua n uk) (hui : ∀ i j, i < n → j < n → uk i = uk j → i = j) (huw : ∀ i k, i < n → k < n * (n + 1) → uk i ≠ we k) (hup : ∀ i, i < n → uk i ≠ pd) : zCt Γ mX2_findUnknowns 5 141 0 0 [.ref E, .ref ua] (Z, V) (pZ (fun r S' => ∃ V' T', S' = (Z, V') ∧ KS Z uo vo w V' T' X ∧ eF Z V V' ∧ tN (fun q => q = pd ∨ ∃ i, i < n ∧ q = uk i) T T' ∧ ((fuT s.1 s.2.2.2.1 n s.2.2.1 (fun _ => f0) = none ∧ r = false) ∨ ∃ U, fuT s.1 s.2.2.2.1 n s.2.2.1 (fun _ => f0) = some U ∧ r = true ∧ ∀ j, j < n → T' (uk j) = U j))) := by
  refine zCt.of [some (.ref E), some (.ref ua), none, none, none, none] pn_X2_findUnknowns rfl (Nat.le_of_ble_eq_true rfl) rfl (fun κ F => ?_)
  obtain ⟨⟨b0, b1, b2, b3, b4, b5, b6⟩, ⟨d1, d2, d3, d4, d5, d6, d7, d8⟩, hw, hwi, nfp, nrc, hra, hco, n1, n5⟩ := id hR
  obtain ⟨u1, u2, u3⟩ := hu
  obtain ⟨M, ro, t, cc, sz, od⟩ := s
  obtain ⟨hI, hM, hpv⟩ := hO
  simp only at hI hM ⊢
  have htn := hI.2.2.2.2.2.2
  let P : Nat → Prop := fun q => q = pd ∨ ∃ i, i < n ∧ q = uk i
  have hPu : ∀ i, i < n → P (uk i) := fun i hi => Or.inr ⟨i, hi, rfl⟩
  have hPp : P pd := Or.inl rfl
  have hPw : ∀ k, k < n * (n + 1) → ¬ P (we k) := fun k hk h => by
    rcases h with h | ⟨i, hi, h⟩
    · exact (hw k hk).2.2.2 h
    · exact huw i k hi hk h.symm
  have eMk : ∀ T1, tN P T T1 → eM T1 n we ro M := fun T1 h p k hp hk => by
    rw [h _ (hPw _ (idx_lt (hI.2.2.2.1 p hp).2 hk))]; exact hM p k hp hk
  generalize hQ : zQ Γ κ (pZ (fun r S' => ∃ V' T', S' = (Z, V') ∧ KS Z uo vo w V' T' X ∧ eF Z V V' ∧ tN (fun q => q = pd ∨ ∃ i, i < n ∧ q = uk i) T T' ∧ ((fuT M cc n t (fun _ => f0) = none ∧ r = false) ∨ ∃ U, fuT M cc n t (fun _ => f0) = some U ∧ r = true ∧ ∀ j, j < n → T' (uk j) = U j))) 0 0 = Q
  have cl : ∀ {i : Nat}, i < n → (nI i).toNatClampNeg = i := fun {i} h => nI_clamp (by omega)
  have inu : ∀ {i : Nat}, i < n → vp_in (nI i) (zn Z ua) := fun {i} h => by rw [u2]; exact vp_in_nI h (by omega)
  have ru : ∀ {i : Nat}, i < n → zA Z ua (nI i).toNatClampNeg = some (uk i) := fun {i} h => by rw [cl h]; exact (u3 i h).1
  -- back from the last PIVOT
  have outer : ∀ (k : Nat) (V1 : Hv) (T1 : Nat → Fr) (U : Nat → Fr) (l3 l4 l5 : Option Value), k ≤ t → KS Z uo vo w V1 T1 X → eF Z V V1 → tN P T T1 → (∀ j, j < n → T1 (uk j) = U j) → fuT M cc n k U = fuT M cc n t (fun _ => f0) → zc1 l3 = true → zc1 l4 = true → zX Γ κ (Z, V1) 0 0 Q 29 [some (.ref E), some (.ref ua), some (.int (nI k - nI 1)), l3, l4, l5] [] := by
    intro k
    induction k with
    | zero =>
      intro V1 T1 U l3 l4 l5 hk hK1 hF1 hT1 hU hsp _ _
      refine z_iload_n F dX2_findUnknowns_29 rfl ?_
      refine z_if_lt (tgt := 155) F dX2_findUnknowns_30 (by decide) (fun c => ?_) (fun c => ?_)
      · subst hQ
        refine z_iconst (v := nI 1) F dX2_findUnknowns_155 (by decide) ?_
        exact z_zret F true dX2_findUnknowns_156 rfl rfl ⟨V1, T1, rfl, hK1, hF1, hT1, Or.inr ⟨U, hsp.symm, rfl, hU⟩⟩
      · exact absurd nI_0m1 c
    | succ k ih =>
      intro V1 T1 U l3 l4 l5 hk hK1 hF1 hT1 hU hsp hl3 hl4
      rw [nI_km1]
      have hkn : k < n := by omega
      obtain ⟨hc, hcn⟩ := hI.2.2.2.2.2.1 k (by omega)
      have hI1 := hI.keep hF1 hra hco
      have hcv : vA V1 co (nI k).toNatClampNeg = nI (cc k) := by rw [cl hkn]; exact (hI1.2.2.2.2.2.1 k (by omega)).1
      have inc : vp_in (nI k) (zn Z co) := by rw [d6]; exact vp_in_nI hkn (by omega)
      have zr := eR.at hR hI hkn (Nat.le_refl n)
      have zf := (u3 (cc k) hcn).2
      have hfu : fuT M cc n (k + 1) U = match fuK M U k (n - (cc k + 1)) (cc k + 1) (M k n) with
        | none => none
        | some x => if wideB (fmul x (M k (cc k)) true) = true then fuT M cc n k (va_up U (cc k) (fmul x (M k (cc k)) true)) else none := rfl
      rw [hfu] at hsp
      have bad : ∀ (pc' : Nat) (V2 : Hv) (T2 : Nat → Fr) (l3 l4 l5 : Option Value), (pc' = 118 ∨ pc' = 147) → KS Z uo vo w V2 T2 X → eF Z V V2 → tN P T T2 → fuT M cc n t (fun _ => f0) = none → zX Γ κ (Z, V2) 0 0 Q pc' [some (.ref E), some (.ref ua), some (.int (nI k)), l3, l4, l5] [] := by
        intro pc' V2 T2 l3 l4 l5 hpc hK2 hF2 hT2 hn
        subst hQ
        rcases hpc with rfl | rfl
        · refine z_iconst (v := nI 0) F dX2_findUnknowns_118 (by decide) ?_
          exact z_zret F false dX2_findUnknowns_119 rfl rfl ⟨V2, T2, rfl, hK2, hF2, hT2, Or.inl ⟨hn, rfl⟩⟩
        · refine z_iconst (v := nI 0) F dX2_findUnknowns_147 (by decide) ?_
          exact z_zret F false dX2_findUnknowns_148 rfl rfl ⟨V2, T2, rfl, hK2, hF2, hT2, Or.inl ⟨hn, rfl⟩⟩
      refine z_iload_n F dX2_findUnknowns_29 rfl ?_
      refine z_if_lt (tgt := 155) F dX2_findUnknowns_30 (by decide) (fun c => ?_) (fun c => ?_)
      · exact absurd c (nI_pos (by omega))
      · refine z_aload_n F dX2_findUnknowns_33 rfl ?_
        refine z_getR F dX2_findUnknowns_34 gr_X2_39 (by assumption) (by assumption) ?_
        refine z_iload_n F dX2_findUnknowns_37 rfl ?_
        refine z_iald F dX2_findUnknowns_38 (by assumption) inc ?_
        refine z_ti hcv ?_
        refine z_istore_n_3 F dX2_findUnknowns_39 rfl ?_
        refine z_aload_n F dX2_findUnknowns_40 rfl ?_
        refine z_iload_n F dX2_findUnknowns_41 rfl ?_
        refine z_aald F dX2_findUnknowns_42 (by assumption) (inu hcn) (ru hcn) ?_
        refine z_astore_4 F dX2_findUnknowns_43 rfl ?_
        refine z_aload F dX2_findUnknowns_45 rfl ?_
        refine z_aload_n F dX2_findUnknowns_47 rfl ?_
        refine z_iload_n F dX2_findUnknowns_48 rfl ?_
        refine z_aload_n F dX2_findUnknowns_49 rfl ?_
        refine z_getI F dX2_findUnknowns_50 gi_X2_19 (by assumption) ?_
        refine z_ti hI1.1 ?_
        refine z_cVr F (c_at hR hI1 hkn (Nat.le_refl n)) dX2_findUnknowns_53 ml_X2_57 ok_X2_at b0 (by decide) rfl rfl rfl (Nat.le_of_ble_eq_true rfl) (by decide) (by decide) (fun r S' hr => ?_)
        obtain ⟨rfl, rfl⟩ := hr
        refine z_cVv F (K_copy hK1 hJ hS zf zr) dX2_findUnknowns_56 ml_X2_69 ok_X3_copy zf (by decide) rfl rfl rfl (Nat.le_of_ble_eq_true rfl) (by decide) (by decide) (fun S' hS' => ?_)
        obtain ⟨V2, rfl, hK2, hF2⟩ := hS'
        rw [eMk T1 hT1 k n hkn (Nat.le_refl n)] at hK2
        -- the columns behind
        have inner : ∀ (d kk : Nat) (V3 : Hv) (T3 : Nat → Fr) (x : Fr), kk + d = n → cc k < kk → KS Z uo vo w V3 T3 X → eF Z V V3 → tN P T T3 → (∀ j, j < n → j ≠ cc k → T3 (uk j) = U j) → T3 (uk (cc k)) = x → fuK M U k d kk x = fuK M U k (n - (cc k + 1)) (cc k + 1) (M k n) → zX Γ κ (Z, V3) 0 0 Q 64 [some (.ref E), some (.ref ua), some (.int (nI k)), some (.int (nI (cc k))), some (.ref (uk (cc k))), some (.int (nI kk))] [] := by
          intro d
          induction d with
          | zero =>
            intro kk V3 T3 x hkk hck hK3 hF3 hT3 hU3 hx hsp3
            rw [← hsp3] at hsp
            simp only [fuK] at hsp
            have hI3 := hI.keep hF3 hra hco
            have zp := eR.at hR hI hkn (Nat.le_of_lt hcn)
            have eTp := eMk T3 hT3 k (cc k) hkn (Nat.le_of_lt hcn)
            refine z_iload F dX2_findUnknowns_64 rfl ?_
            refine z_aload_n F dX2_findUnknowns_66 rfl ?_
            refine z_getI F dX2_findUnknowns_67 gi_X2_19 (by assumption) ?_
            refine z_ti hI3.1 ?_
            refine z_icmp_ge (tgt := 126) F dX2_findUnknowns_70 (by decide) (fun c2 => ?_) (fun c2 => ?_)
            · refine z_aload_n F dX2_findUnknowns_126 rfl ?_
              refine z_getR F dX2_findUnknowns_127 gr_X2_23 (by assumption) (by assumption) ?_
              refine z_aload F dX2_findUnknowns_130 rfl ?_
              refine z_aload_n F dX2_findUnknowns_132 rfl ?_
              refine z_iload_n F dX2_findUnknowns_133 rfl ?_
              refine z_iload_n F dX2_findUnknowns_134 rfl ?_
              refine z_cVr F (c_at hR hI3 hkn (Nat.le_of_lt hcn)) dX2_findUnknowns_135 ml_X2_57 ok_X2_at b0 (by decide) rfl rfl rfl (Nat.le_of_ble_eq_true rfl) (by decide) (by decide) (fun r S' hr => ?_)
              obtain ⟨rfl, rfl⟩ := hr
              refine z_iconst (v := nI 1) F dX2_findUnknowns_138 (by decide) ?_
              refine z_aload F dX2_findUnknowns_139 rfl ?_
              refine z_cVz F (K_multiply (d := true) hK3 hJ hA hS zf zp zf (fun _ => by rw [eTp]; exact (hpv k (by simp only; omega)).1)) dX2_findUnknowns_141 ml_X2_81 ok_X0_multiply hA.1 (by decide) rfl rfl rfl (Nat.le_of_ble_eq_true rfl) (by decide) (by decide) (fun r S' hr => ?_)
              obtain ⟨rfl, V4, rfl, hK4, hF4⟩ := hr
              rw [hx, eTp] at hK4 ⊢
              refine z_if_ne (tgt := 149) F dX2_findUnknowns_144 (by decide) (fun c3 => ?_) (fun c3 => ?_)
              · have hwx := zb_t c3
                rw [upW_t hwx] at hK4
                rw [if_pos hwx] at hsp
                refine z_iinc_2 F dX2_findUnknowns_149 rfl ?_
                refine z_goto (tgt := 29) F dX2_findUnknowns_152 (by decide) ?_
                rw [nI_m1]
                refine ih V4 _ (va_up U (cc k) (fmul x (M k (cc k)) true)) _ _ _ (by omega) hK4 (hF3.trans hF4) (hT3.trans (tN.up (hPu _ hcn))) (fun j hj => ?_) hsp rfl rfl
                by_cases e : j = cc k
                · rw [e, up_self, up_self]
                · rw [up_ne _ _ e, up_ne _ _ (fun z => e (hui j (cc k) hj hcn z))]; exact hU3 j hj e
              · have hwx := zb_f c3
                rw [upW_f hwx] at hK4
                rw [if_neg hwx] at hsp
                exact bad 147 V4 T3 _ _ _ (Or.inr rfl) hK4 (hF3.trans hF4) hT3 hsp.symm
            · exact absurd (nI_le (by omega) (by omega)) c2
          | succ d ih2 =>
            intro kk V3 T3 x hkk hck hK3 hF3 hT3 hU3 hx hsp3
            have hkkn : kk < n := by omega
            have hI3 := hI.keep hF3 hra hco
            have zp := eR.at hR hI hkn (Nat.le_of_lt hkkn)
            have eTp := eMk T3 hT3 k kk hkn (Nat.le_of_lt hkkn)
            have zu := (u3 kk hkkn).2
            have eTu := hU3 kk hkkn (by omega)
            obtain ⟨pr, hpr⟩ : ∃ pr, pr = fmul (M k kk) (U kk) false := ⟨_, rfl⟩
            obtain ⟨sm, hsm⟩ : ∃ sm, sm = fadd x pr true := ⟨_, rfl⟩
            have hst : fuK M U k (d + 1) kk x = if wideB pr = true then (if wideB sm = true then fuK M U k d (kk + 1) sm else none) else none := by rw [hsm, hpr]; rfl
            rw [hst] at hsp3
            refine z_iload F dX2_findUnknowns_64 rfl ?_
            refine z_aload_n F dX2_findUnknowns_66 rfl ?_
            refine z_getI F dX2_findUnknowns_67 gi_X2_19 (by assumption) ?_
            refine z_ti hI3.1 ?_
            refine z_icmp_ge (tgt := 126) F dX2_findUnknowns_70 (by decide) (fun c2 => ?_) (fun c2 => ?_)
            · exact absurd ((nI_leI (by omega) (by omega)).mp c2) (by omega)
            · refine z_aload_n F dX2_findUnknowns_73 rfl ?_
              refine z_getR F dX2_findUnknowns_74 gr_X2_23 (by assumption) (by assumption) ?_
              refine z_aload_n F dX2_findUnknowns_77 rfl ?_
              refine z_iload_n F dX2_findUnknowns_78 rfl ?_
              refine z_iload F dX2_findUnknowns_79 rfl ?_
              refine z_cVr F (c_at hR hI3 hkn (Nat.le_of_lt hkkn)) dX2_findUnknowns_81 ml_X2_57 ok_X2_at b0 (by decide) rfl rfl rfl (Nat.le_of_ble_eq_true rfl) (by decide) (by decide) (fun r S' hr => ?_)
              obtain ⟨rfl, rfl⟩ := hr
              refine z_aload_n F dX2_findUnknowns_84 rfl ?_
              refine z_iload F dX2_findUnknowns_85 rfl ?_
              refine z_aald F dX2_findUnknowns_87 (by assumption) (inu hkkn) (ru hkkn) ?_
              refine z_iconst (v := nI 0) F dX2_findUnknowns_88 (by decide) ?_
              refine z_aload_n F dX2_findUnknowns_89 rfl ?_
              refine z_getR F dX2_findUnknowns_90 gr_X2_16 (by assumption) (by assumption) ?_
              refine z_cVz F (K_multiply (d := false) hK3 hJ hA hS zp zu d8 (fun h => by cases h)) dX2_findUnknowns_93 ml_X2_81 ok_X0_multiply hA.1 (by decide) rfl rfl rfl (Nat.le_of_ble_eq_true rfl) (by decide) (by decide) (fun r S' hr => ?_)
              obtain ⟨rfl, V4, rfl, hK4, hF4⟩ := hr
              rw [eTp, eTu, ← hpr] at hK4 ⊢
              refine z_if_eq (tgt := 118) F dX2_findUnknowns_96 (by decide) (fun c3 => ?_) (fun c3 => ?_)
              · have hwp := zb_f c3
                rw [upW_f hwp] at hK4
                rw [if_neg hwp] at hsp3
                rw [← hsp3] at hsp
                exact bad 118 V4 T3 _ _ _ (Or.inl rfl) hK4 (hF3.trans hF4) hT3 hsp.symm
              · have hwp := zb_t c3
                rw [upW_t hwp] at hK4
                rw [if_pos hwp] at hsp3
                have t4u : va_up T3 pd pr (uk (cc k)) = x := by rw [up_ne _ _ (hup _ hcn), hx]
                have t4p : va_up T3 pd pr pd = pr := up_self _ _ _
                refine z_aload_n F dX2_findUnknowns_99 rfl ?_
                refine z_getR F dX2_findUnknowns_100 gr_X2_23 (by assumption) (by assumption) ?_
                refine z_aload F dX2_findUnknowns_103 rfl ?_
                refine z_aload_n F dX2_findUnknowns_105 rfl ?_
                refine z_getR F dX2_findUnknowns_106 gr_X2_16 (by assumption) (by assumption) ?_
                refine z_iconst (v := nI 1) F dX2_findUnknowns_109 (by decide) ?_
                refine z_aload F dX2_findUnknowns_110 rfl ?_
                refine z_cVz F (K_add (d := true) hK4 hJ hA hS zf d8 zf) dX2_findUnknowns_112 ml_X2_87 ok_X0_add hA.1 (by decide) rfl rfl rfl (Nat.le_of_ble_eq_true rfl) (by decide) (by decide) (fun r S' hr => ?_)
                obtain ⟨rfl, V5, rfl, hK5, hF5⟩ := hr
                rw [t4u, t4p, ← hsm] at hK5 ⊢
                refine z_if_ne (tgt := 120) F dX2_findUnknowns_115 (by decide) (fun c4 => ?_) (fun c4 => ?_)
                · have hws := zb_t c4
                  rw [upW_t hws] at hK5
                  rw [if_pos hws] at hsp3
                  refine z_iinc_5 F dX2_findUnknowns_120 rfl ?_
                  refine z_goto (tgt := 64) F dX2_findUnknowns_123 (by decide) ?_
                  rw [show nI kk + Int32.ofInt 1 = nI (kk + 1) from nI_1 kk]
                  refine ih2 (kk + 1) V5 _ sm (by omega) (by omega) hK5 ((hF3.trans hF4).trans hF5) ((hT3.trans (tN.up hPp)).trans (tN.up (hPu _ hcn))) (fun j hj hjc => ?_) (up_self _ _ _) hsp3
                  rw [up_ne _ _ (fun z => hjc (hui j (cc k) hj hcn z)), up_ne _ _ (hup j hj)]
                  exact hU3 j hj hjc
                · have hws := zb_f c4
                  rw [upW_f hws] at hK5
                  rw [if_neg hws] at hsp3
                  rw [← hsp3] at hsp
                  exact bad 118 V5 _ _ _ _ (Or.inl rfl) hK5 ((hF3.trans hF4).trans hF5) (hT3.trans (tN.up hPp)) hsp.symm
        refine z_iload_n F dX2_findUnknowns_59 rfl ?_
        refine z_iconst (v := nI 1) F dX2_findUnknowns_60 (by decide) ?_
        refine z_iadd F dX2_findUnknowns_61 ?_
        refine z_ti (nI_add (cc k) 1) ?_
        refine z_istore_5 F dX2_findUnknowns_62 rfl ?_
        exact inner (n - (cc k + 1)) (cc k + 1) V2 _ (M k n) (by omega) (by omega) hK2 (hF1.trans hF2) (hT1.trans (tN.up (hPu _ hcn))) (fun j hj hjc => by rw [up_ne _ _ (fun z => hjc (hui j (cc k) hj hcn z))]; exact hU j hj) (up_self _ _ _) rfl
  -- all 0 at first
  have loop0 : ∀ (d i : Nat) (V1 : Hv) (T1 : Nat → Fr), i + d = n → KS Z uo vo w V1 T1 X → eF Z V V1 → tN P T T1 → (∀ j, j < i → T1 (uk j) = f0) → zX Γ κ (Z, V1) 0 0 Q 2 [some (.ref E), some (.ref ua), some (.int (nI i)), none, none, none] [] := by
    intro d
    induction d with
    | zero =>
      intro i V1 T1 hi hK1 hF1 hT1 h0
      have hI1 := hI.keep hF1 hra hco
      refine z_iload_n F dX2_findUnknowns_2 rfl ?_
      refine z_aload_n F dX2_findUnknowns_3 rfl ?_
      refine z_getI F dX2_findUnknowns_4 gi_X2_19 (by assumption) ?_
      refine z_ti hI1.1 ?_
      refine z_icmp_ge (tgt := 22) F dX2_findUnknowns_7 (by decide) (fun c => ?_) (fun c => ?_)
      · refine z_aload_n F dX2_findUnknowns_22 rfl ?_
        refine z_getI F dX2_findUnknowns_23 gi_X2_54 (by assumption) ?_
        refine z_ti hI1.2.1 ?_
        refine z_iconst (v := nI 1) F dX2_findUnknowns_26 (by decide) ?_
        refine z_isub F dX2_findUnknowns_27 ?_
        refine z_istore_n_2 F dX2_findUnknowns_28 rfl ?_
        exact outer t V1 T1 (fun _ => f0) none none none (Nat.le_refl _) hK1 hF1 hT1 (fun j hj => h0 j (by omega)) rfl rfl rfl
      · exact absurd (nI_le (by omega) (by omega)) c
    | succ d ih =>
      intro i V1 T1 hi hK1 hF1 hT1 h0
      have hin : i < n := by omega
      have hI1 := hI.keep hF1 hra hco
      have zu := (u3 i hin).2
      refine z_iload_n F dX2_findUnknowns_2 rfl ?_
      refine z_aload_n F dX2_findUnknowns_3 rfl ?_
      refine z_getI F dX2_findUnknowns_4 gi_X2_19 (by assumption) ?_
      refine z_ti hI1.1 ?_
      refine z_icmp_ge (tgt := 22) F dX2_findUnknowns_7 (by decide) (fun c => ?_) (fun c => ?_)
      · exact absurd ((nI_leI (by omega) (by omega)).mp c) (by omega)
      · refine z_aload_n F dX2_findUnknowns_10 rfl ?_
        refine z_iload_n F dX2_findUnknowns_11 rfl ?_
        refine z_aald F dX2_findUnknowns_12 (by assumption) (inu hin) (ru hin) ?_
        refine z_cVv F (K_setZero hK1 hJ hS zu) dX2_findUnknowns_13 ml_X2_90 ok_X3_setZero zu (by decide) rfl rfl rfl (Nat.le_of_ble_eq_true rfl) (by decide) (by decide) (fun S' hS' => ?_)
        obtain ⟨V2, rfl, hK2, hF2⟩ := hS'
        refine z_iinc_2 F dX2_findUnknowns_16 rfl ?_
        refine z_goto (tgt := 2) F dX2_findUnknowns_19 (by decide) ?_
        rw [show nI i + Int32.ofInt 1 = nI (i + 1) from nI_1 i]
        refine ih (i + 1) V2 _ (by omega) hK2 (hF1.trans hF2) (hT1.trans (tN.up (hPu i hin))) (fun j hj => ?_)
        by_cases e : j = i
        · rw [e, up_self]
        · rw [up_ne _ _ (fun z => e (hui j i (by omega) hin z))]; exact h0 j (by omega)
  refine z_iconst (v := nI 0) F dX2_findUnknowns_0 (by decide) ?_
  refine z_istore_n_2 F dX2_findUnknowns_1 rfl ?_
  exact loop0 n 0 V T (by omega) hK (eF.refl _ _) (tN.refl _ _) (fun j hj => absurd hj (Nat.not_lt_zero j))
end FIND
