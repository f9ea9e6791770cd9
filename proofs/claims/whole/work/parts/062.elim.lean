/-! ===== Elimination: bring, begin, clearColumn ===== -/
def gE (Z : Hz) (E ra co : Nat) (V V' : Hv) : Prop := eG (fun ci k a => pI0 ci k a ∨ (ci = 2 ∧ a = E)) (fun a => pA0 Z a ∨ a = ra ∨ a = co) V V'
theorem gE.ofF {Z : Hz} {E ra co : Nat} {V V' : Hv} (h : eF Z V V') : gE Z E ra co V V' := h.g.mono (fun _ _ _ h => Or.inl h) (fun _ h => Or.inl h)
section ELIM2
variable {Γ : Gm} {Z : Hz} {V : Hv} {T : Nat → Fr} {X : Nat → Nat} {uo vo w we : Nat → Nat} {E n A wk ra co fa pd : Nat} {ro cc : Nat → Nat} {t : Nat} {od : Bool} {M : Mx}
theorem gE.setI2 {k : Nat} {x : Int32} (hK : KS Z uo vo w V T X) : KS Z uo vo w (sI V 2 k E x) T X ∧ gE Z E ra co V (sI V 2 k E x) := by
  have h : eG (fun ci k a => ci = 2 ∧ a = E) (fun _ => False) V (sI V 2 k E x) := eG.setI V x ⟨rfl, rfl⟩
  refine ⟨hK.keep h (fun ci k a z h9 => ?_) (fun a z => z.elim), h.mono (fun ci k a z => Or.inr z) (fun a z => z.elim)⟩
  rcases h9 with h9 | h9 <;> (rw [z.1] at h9; exact absurd h9.1 (by decide))
theorem gE.setA2 {a : Nat} {f : Nat → Int32} (hK : KS Z uo vo w V T X) (ha : a = ra ∨ a = co) (hn : ¬ pA0 Z a) : KS Z uo vo w (sA V a f) T X ∧ gE Z E ra co V (sA V a f) := by
  have h : eG (fun _ _ _ => False) (fun b => b = a) V (sA V a f) := eG.setA V f rfl
  refine ⟨hK.keep h (fun _ _ _ z => z.elim) (fun b z => by rw [z]; exact hn), h.mono (fun _ _ _ z => z.elim) (fun b z => Or.inr (by rw [z]; exact ha))⟩
set_option maxRecDepth 100000 in
set_option maxHeartbeats 1000000 in
theorem c_bring {c j : Nat} (hK : KS Z uo vo w V T X) (hR : eR Z E n A wk ra co fa pd we) (hI : eI V E n ra co ro t cc od) (hc : c < n) (htn : t < n) (hj : j < n) : zCt Γ mX2_bring 0 0 0 0 [.ref E, .int (nI c), .int (nI j)] (Z, V) (pV (fun S' => ∃ V', S' = (Z, V') ∧ KS Z uo vo w V' T X ∧ eI V' E n ra co (swp ro c t) (t + 1) (va_up cc t j) (if c = t then od else !od) ∧ gE Z E ra co V V')) := by
  refine zCt.of [some (.ref E), some (.int (nI c)), some (.int (nI j)), none] pn_X2_bring rfl (Nat.le_of_ble_eq_true rfl) rfl (fun κ F => ?_)
  obtain ⟨⟨b0, b1, b2, b3, b4, b5, b6⟩, ⟨d1, d2, d3, d4, d5, d6, d7, d8⟩, hw, hwi, nfp, nrc, hra, hco, n1, n5⟩ := id hR
  have cl : ∀ {i : Nat}, i < n → (nI i).toNatClampNeg = i := fun {i} h => nI_clamp (by omega)
  have inr : ∀ {i : Nat}, i < n → vp_in (nI i) (zn Z ra) := fun {i} h => by rw [d4]; exact vp_in_nI h (by omega)
  have inc : ∀ {i : Nat}, i < n → vp_in (nI i) (zn Z co) := fun {i} h => by rw [d6]; exact vp_in_nI h (by omega)
  generalize hQ : zQ Γ κ (pV (fun S' => ∃ V', S' = (Z, V') ∧ KS Z uo vo w V' T X ∧ eI V' E n ra co (swp ro c t) (t + 1) (va_up cc t j) (if c = t then od else !od) ∧ gE Z E ra co V V')) 0 0 = Q
  have tail : ∀ (V1 : Hv) (l3 : Option Value), KS Z uo vo w V1 T X → eI V1 E n ra co (swp ro c t) t cc (if c = t then od else !od) → gE Z E ra co V V1 → zX Γ κ (Z, V1) 0 0 Q 56 [some (.ref E), some (.int (nI c)), some (.int (nI j)), l3] [] := by
    intro V1 l3 hK1 hI1 hG1
    obtain ⟨i1, i2, i3, i4, i5, i6, i7⟩ := hI1
    refine z_aload_n F dX2_bring_56 rfl ?_
    refine z_getR F dX2_bring_57 gr_X2_39 (by assumption) (by assumption) ?_
    refine z_aload_n F dX2_bring_60 rfl ?_
    refine z_getI F dX2_bring_61 gi_X2_54 (by assumption) ?_
    refine z_ti i2 ?_
    refine z_iload_n F dX2_bring_64 rfl ?_
    refine z_iast F dX2_bring_65 (by assumption) (inc htn) ?_
    obtain ⟨hK2, hG2⟩ := gE.setA2 (E := E) (ra := ra) (co := co) (f := upd (vA V1 co) (nI t).toNatClampNeg (nI j)) hK1 (Or.inr rfl) hco
    obtain ⟨hK3, hG3⟩ := gE.setI2 (E := E) (ra := ra) (co := co) (k := 7) (x := nI (t + 1)) hK2
    subst hQ
    have q2 : vI (sA V1 co (upd (vA V1 co) (nI t).toNatClampNeg (nI j))) 2 7 E = nI t := i2
    refine z_aload_n F dX2_bring_66 rfl ?_
    refine z_dup F dX2_bring_67 rfl ?_
    refine z_getI F dX2_bring_68 gi_X2_54 (by assumption) ?_
    refine z_ti q2 ?_
    refine z_iconst (v := nI 1) F dX2_bring_71 (by decide) ?_
    refine z_iadd F dX2_bring_72 ?_
    refine z_ti (nI_add t 1) ?_
    refine z_putI F dX2_bring_73 pi_X2_54 (zf_2_7 _) (by assumption) ?_
    exact z_vret F dX2_bring_76 rfl ⟨_, rfl, hK3, ⟨by rw [vI_sI_ne _ _ (fun z => absurd z.2.1 (by decide))]; exact i1, vI_sI_self _ _ _ _ _, by rw [vI_sI_ne _ _ (fun z => absurd z.2.1 (by decide))]; exact i3, fun p hp => by
      refine ⟨?_, (i4 p hp).2⟩
      show vA (sA V1 co _) ra p = _
      rw [vA_sA_ne _ _ nrc]; exact (i4 p hp).1, i5, fun p hp => by
      show vA (sA V1 co _) co p = _ ∧ _
      rw [vA_sA_self, cl htn]
      by_cases e : p = t
      · subst e
        rw [pk_us, up_self]
        exact ⟨rfl, hj⟩
      · rw [pk_un e, up_ne _ _ e]
        exact i6 p (by omega), by omega⟩, (hG1.trans hG2).trans hG3⟩
  obtain ⟨i1, i2, i3, i4, i5, i6, i7⟩ := id hI
  refine z_iload_n F dX2_bring_0 rfl ?_
  refine z_aload_n F dX2_bring_1 rfl ?_
  refine z_getI F dX2_bring_2 gi_X2_54 (by assumption) ?_
  refine z_ti i2 ?_
  refine z_icmp_eq (tgt := 56) F dX2_bring_5 (by decide) (fun c1 => ?_) (fun c1 => ?_)
  · have h := (nI_eq (by omega) (by omega)).mp c1
    subst h
    refine tail V none hK ?_ (eG.refl V)
    rw [swp_id, if_pos rfl]
    exact hI
  · have h := mt (nI_eq (a := c) (b := t) (by omega) (by omega)).mpr c1
    have rc : vA V ra (nI c).toNatClampNeg = nI (ro c) := by rw [cl hc]; exact (i4 c hc).1
    have rt : vA V ra (nI t).toNatClampNeg = nI (ro t) := by rw [cl htn]; exact (i4 t htn).1
    refine z_aload_n F dX2_bring_8 rfl ?_
    refine z_getR F dX2_bring_9 gr_X2_35 (by assumption) (by assumption) ?_
    refine z_iload_n F dX2_bring_12 rfl ?_
    refine z_iald F dX2_bring_13 (by assumption) (inr hc) ?_
    refine z_ti rc ?_
    refine z_istore_n_3 F dX2_bring_14 rfl ?_
    refine z_aload_n F dX2_bring_15 rfl ?_
    refine z_getR F dX2_bring_16 gr_X2_35 (by assumption) (by assumption) ?_
    refine z_iload_n F dX2_bring_19 rfl ?_
    refine z_aload_n F dX2_bring_20 rfl ?_
    refine z_getR F dX2_bring_21 gr_X2_35 (by assumption) (by assumption) ?_
    refine z_aload_n F dX2_bring_24 rfl ?_
    refine z_getI F dX2_bring_25 gi_X2_54 (by assumption) ?_
    refine z_ti i2 ?_
    refine z_iald F dX2_bring_28 (by assumption) (inr htn) ?_
    refine z_ti rt ?_
    refine z_iast F dX2_bring_29 (by assumption) (inr hc) ?_
    have q2 : vI (sA V ra (upd (vA V ra) (nI c).toNatClampNeg (nI (ro t)))) 2 7 E = nI t := i2
    refine z_aload_n F dX2_bring_30 rfl ?_
    refine z_getR F dX2_bring_31 gr_X2_35 (by assumption) (by assumption) ?_
    refine z_aload_n F dX2_bring_34 rfl ?_
    refine z_getI F dX2_bring_35 gi_X2_54 (by assumption) ?_
    refine z_ti q2 ?_
    refine z_iload_n F dX2_bring_38 rfl ?_
    refine z_iast F dX2_bring_39 (by assumption) (inr htn) ?_
    obtain ⟨f, hf⟩ : ∃ f, f = upd (upd (vA V ra) c (nI (ro t))) t (nI (ro c)) := ⟨_, rfl⟩
    refine z_V (show _ = sA V ra f by rw [vA_sA_self, sA_sA, cl hc, cl htn, hf]) ?_
    have hfp : ∀ p, p < n → f p = nI (swp ro c t p) := by
      intro p hp
      rw [hf]
      by_cases e : p = t
      · subst e
        rw [pk_us]
        simp [swp, Ne.symm h]
      · rw [pk_un e]
        by_cases e2 : p = c
        · subst e2; rw [pk_us]; simp [swp]
        · rw [pk_un e2, (i4 p hp).1]; simp [swp, e, e2]
    have hsw : ∀ p, p < n → swp ro c t p < n := fun p hp => by
      unfold swp
      split
      · exact (i4 t htn).2
      · split
        · exact (i4 c hc).2
        · exact (i4 p hp).2
    have hsi : ∀ p p', p < n → p' < n → swp ro c t p = swp ro c t p' → p = p' := by
      intro p p' hp hp' hh
      unfold swp at hh
      by_cases a1 : p = c <;> by_cases a2 : p' = c
      · omega
      · rw [if_pos a1, if_neg a2] at hh
        by_cases a3 : p' = t
        · rw [if_pos a3] at hh; have := i5 t c htn hc hh; omega
        · rw [if_neg a3] at hh; have := i5 t p' htn hp' hh; omega
      · rw [if_neg a1, if_pos a2] at hh
        by_cases a3 : p = t
        · rw [if_pos a3] at hh; have := i5 c t hc htn hh; omega
        · rw [if_neg a3] at hh; have := i5 p t hp htn hh; omega
      · rw [if_neg a1, if_neg a2] at hh
        by_cases a3 : p = t <;> by_cases a4 : p' = t
        · omega
        · rw [if_pos a3, if_neg a4] at hh; have := i5 c p' hc hp' hh; omega
        · rw [if_neg a3, if_pos a4] at hh; have := i5 p c hp hc hh; omega
        · rw [if_neg a3, if_neg a4] at hh; exact i5 p p' hp hp' hh
    obtain ⟨hK2, hG2⟩ := gE.setA2 (E := E) (ra := ra) (co := co) (f := f) hK (Or.inl rfl) hra
    have fin : ∀ (x : Int32) (b : Bool), x = zb b → b = (!od) → zX Γ κ (Z, sA V ra f) 0 0 Q 53 [some (.ref E), some (.int (nI c)), some (.int (nI j)), some (.int (nI (ro c)))] [.int x, .ref E] := by
      intro x b hx hb
      have hx01 : x = 0 ∨ x = 1 := by rw [hx]; cases b; exact Or.inl rfl; exact Or.inr rfl
      obtain ⟨hK3, hG3⟩ := gE.setI2 (E := E) (ra := ra) (co := co) (k := 8) (x := x) hK2
      refine z_putI F dX2_bring_53 pi_X2_73 (zf_2_8 hx01) (by assumption) ?_
      refine tail _ _ hK3 ?_ (hG2.trans hG3)
      rw [if_neg h, ← hb]
      refine ⟨by rw [vI_sI_ne _ _ (fun z => absurd z.2.1 (by decide))]; exact i1, by rw [vI_sI_ne _ _ (fun z => absurd z.2.1 (by decide))]; exact i2, by rw [vI_sI_self]; exact hx, fun p hp => ⟨?_, hsw p hp⟩, hsi, fun p hp => ?_, i7⟩
      · show vA (sA V ra f) ra p = _
        rw [vA_sA_self]; exact hfp p hp
      · show vA (sA V ra f) co p = _ ∧ _
        rw [vA_sA_ne _ _ (Ne.symm nrc)]; exact i6 p hp
    have q3 : vI (sA V ra f) 2 8 E = zb od := i3
    refine z_aload_n F dX2_bring_40 rfl ?_
    refine z_aload_n F dX2_bring_41 rfl ?_
    refine z_getI F dX2_bring_42 gi_X2_73 (by assumption) ?_
    refine z_ti q3 ?_
    refine z_if_ne (tgt := 52) F dX2_bring_45 (by decide) (fun c2 => ?_) (fun c2 => ?_)
    · refine z_iconst (v := nI 0) F dX2_bring_52 (by decide) ?_
      refine fin _ false rfl ?_
      cases od with
      | true => rfl
      | false => exact absurd rfl c2
    · refine z_iconst (v := nI 1) F dX2_bring_48 (by decide) ?_
      refine z_goto (tgt := 53) F dX2_bring_49 (by decide) ?_
      refine fin _ true rfl ?_
      rw [(zb_eq0 od).mp c2]
      rfl
/-- rows swapped are the entries by the new places -/
theorem eM.swap {c : Nat} (hM : eM T n we ro M) (hc : c < n) (htn : t < n) : eM T n we (swp ro c t) (swp M c t) := by
  intro p k hp hk
  unfold swp
  by_cases a1 : p = c
  · rw [if_pos a1, if_pos a1]; exact hM t k htn hk
  · rw [if_neg a1, if_neg a1]
    by_cases a2 : p = t
    · rw [if_pos a2, if_pos a2]; exact hM c k hc hk
    · rw [if_neg a2, if_neg a2]; exact hM p k hp hk
set_option maxRecDepth 100000 in
set_option maxHeartbeats 1000000 in
theorem c_clearColumn {p t0 j e : Nat} (hK : KS Z uo vo w V T X) (hJ : wInj Z) (hA : aR Z A w) (hS : fS Z uo vo w) (hR : eR Z E n A wk ra co fa pd we) (hI : eI V E n ra co ro (t0 + 1) cc od) (hM : eM T n we ro M) (hp : p < n) (hpt : p ≠ t0) (hj : j < n) (he : e ≤ n + 1) (hpv : (M t0 j).2.1 ≠ 0) : zCt Γ mX2_clearColumn 5 141 0 0 [.ref E, .int (nI p), .int (nI j), .int (nI e)] (Z, V) (pZ (fun r S' => ∃ V' T', S' = (Z, V') ∧ KS Z uo vo w V' T' X ∧ eF Z V V' ∧ tS we n fa pd T T' ∧ ((clrR M t0 p j e = none ∧ r = false) ∨ ∃ M', clrR M t0 p j e = some M' ∧ r = true ∧ eM T' n we ro M'))) := by
  refine zCt.of [some (.ref E), some (.int (nI p)), some (.int (nI j)), some (.int (nI e)), none, none, none] pn_X2_clearColumn rfl (Nat.le_of_ble_eq_true rfl) rfl (fun κ F => ?_)
  obtain ⟨⟨b0, b1, b2, b3, b4, b5, b6⟩, ⟨d1, d2, d3, d4, d5, d6, d7, d8⟩, hw, hwi, nfp, nrc, hra, hco, n1, n5⟩ := id hR
  have htn : t0 < n := by have := hI.2.2.2.2.2.2; omega
  generalize hQ : zQ Γ κ (pZ (fun r S' => ∃ V' T', S' = (Z, V') ∧ KS Z uo vo w V' T' X ∧ eF Z V V' ∧ tS we n fa pd T T' ∧ ((clrR M t0 p j e = none ∧ r = false) ∨ ∃ M', clrR M t0 p j e = some M' ∧ r = true ∧ eM T' n we ro M'))) 0 0 = Q
  have hwo : ∀ {i : Nat}, i < n * (n + 1) → ∀ q, q = fa ∨ q = pd → q ≠ we i := fun {i} hi q hq z => by
    rcases hq with rfl | rfl
    · exact (hw i hi).2.2.1 z.symm
    · exact (hw i hi).2.2.2 z.symm
  have zt := eR.at hR hI htn (Nat.le_of_lt hj)
  have zp := eR.at hR hI hp (Nat.le_of_lt hj)
  have eTt := hM t0 j htn (Nat.le_of_lt hj)
  have eTp := hM p j hp (Nat.le_of_lt hj)
  obtain ⟨f, hf⟩ : ∃ f, f = fmul (M p j) (M t0 j) true := ⟨_, rfl⟩
  have hclr : clrR M t0 p j e = if wideB f = true then (clrK f t0 p (e - (j + 1)) (j + 1) M).map (fun M' => up2 M' p j f0) else none := by rw [hf]; rfl
  refine z_aload_n F dX2_clearColumn_0 rfl ?_
  refine z_getI F dX2_clearColumn_1 gi_X2_54 (by assumption) ?_
  refine z_ti hI.2.1 ?_
  refine z_iconst (v := nI 1) F dX2_clearColumn_4 (by decide) ?_
  refine z_isub F dX2_clearColumn_5 ?_
  refine z_ti (nI_km1 t0) ?_
  refine z_istore_4 F dX2_clearColumn_6 rfl ?_
  refine z_aload_n F dX2_clearColumn_8 rfl ?_
  refine z_getR F dX2_clearColumn_9 gr_X2_23 (by assumption) (by assumption) ?_
  refine z_aload_n F dX2_clearColumn_12 rfl ?_
  refine z_iload_n F dX2_clearColumn_13 rfl ?_
  refine z_iload_n F dX2_clearColumn_14 rfl ?_
  refine z_cVr F (c_at hR hI hp (Nat.le_of_lt hj)) dX2_clearColumn_15 ml_X2_57 ok_X2_at b0 (by decide) rfl rfl rfl (Nat.le_of_ble_eq_true rfl) (by decide) (by decide) (fun r S' hr => ?_)
  obtain ⟨rfl, rfl⟩ := hr
  refine z_aload_n F dX2_clearColumn_18 rfl ?_
  refine z_iload F dX2_clearColumn_19 rfl ?_
  refine z_iload_n F dX2_clearColumn_21 rfl ?_
  refine z_cVr F (c_at hR hI htn (Nat.le_of_lt hj)) dX2_clearColumn_22 ml_X2_57 ok_X2_at b0 (by decide) rfl rfl rfl (Nat.le_of_ble_eq_true rfl) (by decide) (by decide) (fun r S' hr => ?_)
  obtain ⟨rfl, rfl⟩ := hr
  refine z_iconst (v := nI 1) F dX2_clearColumn_25 (by decide) ?_
  refine z_aload_n F dX2_clearColumn_26 rfl ?_
  refine z_getR F dX2_clearColumn_27 gr_X2_10 (by assumption) (by assumption) ?_
  refine z_cVz F (K_multiply (d := true) hK hJ hA hS zp zt d7 (fun _ => by rw [eTt]; exact hpv)) dX2_clearColumn_30 ml_X2_81 ok_X0_multiply hA.1 (by decide) rfl rfl rfl (Nat.le_of_ble_eq_true rfl) (by decide) (by decide) (fun r S' hr => ?_)
  obtain ⟨rfl, V1, rfl, hK1, hF1⟩ := hr
  rw [eTp, eTt, ← hf] at hK1 ⊢
  refine z_if_ne (tgt := 38) F dX2_clearColumn_33 (by decide) (fun c1 => ?_) (fun c1 => ?_)
  rotate_left
  · have hwf : ¬ wideB f = true := by
      have := (zb_eq0 _).mp c1
      rw [this]; decide
    rw [if_neg hwf] at hclr
    rw [upW_f hwf] at hK1
    subst hQ
    refine z_iconst (v := nI 0) F dX2_clearColumn_36 (by decide) ?_
    exact z_zret F false dX2_clearColumn_37 rfl rfl ⟨V1, T, rfl, hK1, hF1, tS.refl _ _ _ _ _, Or.inl ⟨hclr, rfl⟩⟩
  have hwf : wideB f = true := by
    cases h : wideB f with
    | true => rfl
    | false => rw [h] at c1; exact absurd rfl c1
  rw [if_pos hwf] at hclr
  rw [upW_t hwf] at hK1
  -- the loop over the columns
  have loop : ∀ (d k : Nat) (V1 : Hv) (T1 : Nat → Fr) (M1 : Mx) (l6 : Option Value), k + d = e → j < k → KS Z uo vo w V1 T1 X → eF Z V V1 → tS we n fa pd T T1 → eM T1 n we ro M1 → T1 fa = f → clrK f t0 p d k M1 = clrK f t0 p (e - (j + 1)) (j + 1) M → zX Γ κ (Z, V1) 0 0 Q 43 [some (.ref E), some (.int (nI p)), some (.int (nI j)), some (.int (nI e)), some (.int (nI t0)), some (.int (nI k)), l6] [] := by
    intro d
    induction d with
    | zero =>
      intro k V1 T1 M1 l6 hk hjk hK1 hF1 hT1 hM1 hfa hsp
      have hI1 := hI.keep hF1 hra hco
      refine z_iload F dX2_clearColumn_43 rfl ?_
      refine z_iload_n F dX2_clearColumn_45 rfl ?_
      refine z_icmp_ge (tgt := 112) F dX2_clearColumn_46 (by decide) (fun c => ?_) (fun c => ?_)
      · refine z_aload_n F dX2_clearColumn_112 rfl ?_
        refine z_iload_n F dX2_clearColumn_113 rfl ?_
        refine z_iload_n F dX2_clearColumn_114 rfl ?_
        refine z_cVr F (c_at hR hI1 hp (Nat.le_of_lt hj)) dX2_clearColumn_115 ml_X2_57 ok_X2_at b0 (by decide) rfl rfl rfl (Nat.le_of_ble_eq_true rfl) (by decide) (by decide) (fun r S' hr => ?_)
        obtain ⟨rfl, rfl⟩ := hr
        refine z_cVv F (K_setZero hK1 hJ hS zp) dX2_clearColumn_118 ml_X2_90 ok_X3_setZero zp (by decide) rfl rfl rfl (Nat.le_of_ble_eq_true rfl) (by decide) (by decide) (fun S' hS' => ?_)
        obtain ⟨V2, rfl, hK2, hF2⟩ := hS'
        rw [← hsp] at hclr
        subst hQ
        refine z_iconst (v := nI 1) F dX2_clearColumn_121 (by decide) ?_
        exact z_zret F true dX2_clearColumn_122 rfl rfl ⟨V2, _, rfl, hK2, hF1.trans hF2, hT1.trans (tS.ofWe (idx_lt (hI.2.2.2.1 p hp).2 (Nat.le_of_lt hj))), Or.inr ⟨_, hclr, rfl, eM.up hR hI hM1 hp (Nat.le_of_lt hj)⟩⟩
      · exact absurd (nI_le (by omega) (by omega)) c
    | succ d ih =>
      intro k V1 T1 M1 l6 hk hjk hK1 hF1 hT1 hM1 hfa hsp
      have hkn : k ≤ n := by omega
      have hI1 := hI.keep hF1 hra hco
      have ztk := eR.at hR hI htn hkn
      have zpk := eR.at hR hI hp hkn
      have lpk := idx_lt (hI.2.2.2.1 p hp).2 hkn
      have ltk := idx_lt (hI.2.2.2.1 t0 htn).2 hkn
      have eTtk := hM1 t0 k htn hkn
      have eTpk := hM1 p k hp hkn
      obtain ⟨pr, hpr⟩ : ∃ pr, pr = fmul f (M1 t0 k) false := ⟨_, rfl⟩
      obtain ⟨sm, hsm⟩ : ∃ sm, sm = fadd (M1 p k) pr true := ⟨_, rfl⟩
      have hst : clrK f t0 p (d + 1) k M1 = if wideB pr = true then (if wideB sm = true then clrK f t0 p d (k + 1) (up2 M1 p k sm) else none) else none := by rw [hsm, hpr]; rfl
      rw [hst] at hsp
      have bad : ∀ (V2 : Hv) (T2 : Nat → Fr) (l6 : Option Value), KS Z uo vo w V2 T2 X → eF Z V V2 → tS we n fa pd T T2 → clrK f t0 p (e - (j + 1)) (j + 1) M = none → zX Γ κ (Z, V2) 0 0 Q 104 [some (.ref E), some (.int (nI p)), some (.int (nI j)), some (.int (nI e)), some (.int (nI t0)), some (.int (nI k)), l6] [] := by
        intro V2 T2 l6 hK2 hF2 hT2 hn
        rw [hn] at hclr
        subst hQ
        refine z_iconst (v := nI 0) F dX2_clearColumn_104 (by decide) ?_
        exact z_zret F false dX2_clearColumn_105 rfl rfl ⟨V2, T2, rfl, hK2, hF2, hT2, Or.inl ⟨hclr, rfl⟩⟩
      refine z_iload F dX2_clearColumn_43 rfl ?_
      refine z_iload_n F dX2_clearColumn_45 rfl ?_
      refine z_icmp_ge (tgt := 112) F dX2_clearColumn_46 (by decide) (fun c => ?_) (fun c => ?_)
      · exact absurd ((nI_leI (by omega) (by omega)).mp c) (by omega)
      · refine z_aload_n F dX2_clearColumn_49 rfl ?_
        refine z_iload_n F dX2_clearColumn_50 rfl ?_
        refine z_iload F dX2_clearColumn_51 rfl ?_
        refine z_cVr F (c_at hR hI1 hp hkn) dX2_clearColumn_53 ml_X2_57 ok_X2_at b0 (by decide) rfl rfl rfl (Nat.le_of_ble_eq_true rfl) (by decide) (by decide) (fun r S' hr => ?_)
        obtain ⟨rfl, rfl⟩ := hr
        refine z_astore_6 F dX2_clearColumn_56 rfl ?_
        refine z_aload_n F dX2_clearColumn_58 rfl ?_
        refine z_getR F dX2_clearColumn_59 gr_X2_23 (by assumption) (by assumption) ?_
        refine z_aload_n F dX2_clearColumn_62 rfl ?_
        refine z_getR F dX2_clearColumn_63 gr_X2_10 (by assumption) (by assumption) ?_
        refine z_aload_n F dX2_clearColumn_66 rfl ?_
        refine z_iload F dX2_clearColumn_67 rfl ?_
        refine z_iload F dX2_clearColumn_69 rfl ?_
        refine z_cVr F (c_at hR hI1 htn hkn) dX2_clearColumn_71 ml_X2_57 ok_X2_at b0 (by decide) rfl rfl rfl (Nat.le_of_ble_eq_true rfl) (by decide) (by decide) (fun r S' hr => ?_)
        obtain ⟨rfl, rfl⟩ := hr
        refine z_iconst (v := nI 0) F dX2_clearColumn_74 (by decide) ?_
        refine z_aload_n F dX2_clearColumn_75 rfl ?_
        refine z_getR F dX2_clearColumn_76 gr_X2_16 (by assumption) (by assumption) ?_
        refine z_cVz F (K_multiply (d := false) hK1 hJ hA hS d7 ztk d8 (fun h => by cases h)) dX2_clearColumn_79 ml_X2_81 ok_X0_multiply hA.1 (by decide) rfl rfl rfl (Nat.le_of_ble_eq_true rfl) (by decide) (by decide) (fun r S' hr => ?_)
        obtain ⟨rfl, V2, rfl, hK2, hF2⟩ := hr
        rw [hfa, eTtk, ← hpr] at hK2 ⊢
        refine z_if_eq (tgt := 104) F dX2_clearColumn_82 (by decide) (fun c2 => ?_) (fun c2 => ?_)
        · have hwp : ¬ wideB pr = true := by
            have := (zb_eq0 _).mp c2
            rw [this]; decide
          rw [upW_f hwp] at hK2
          rw [if_neg hwp] at hsp
          exact bad V2 T1 _ hK2 (hF1.trans hF2) hT1 hsp.symm
        · have hwp : wideB pr = true := by
            cases h : wideB pr with
            | true => rfl
            | false => rw [h] at c2; exact absurd rfl c2
          rw [upW_t hwp] at hK2
          rw [if_pos hwp] at hsp
          have t2p : va_up T1 pd pr (we (ro p * (n + 1) + k)) = M1 p k := by rw [up_ne _ _ (fun z => hwo lpk pd (Or.inr rfl) z.symm), eTpk]
          have t2d : va_up T1 pd pr pd = pr := up_self _ _ _
          have t2f : va_up T1 pd pr fa = f := by rw [up_ne _ _ nfp, hfa]
          refine z_aload_n F dX2_clearColumn_85 rfl ?_
          refine z_getR F dX2_clearColumn_86 gr_X2_23 (by assumption) (by assumption) ?_
          refine z_aload F dX2_clearColumn_89 rfl ?_
          refine z_aload_n F dX2_clearColumn_91 rfl ?_
          refine z_getR F dX2_clearColumn_92 gr_X2_16 (by assumption) (by assumption) ?_
          refine z_iconst (v := nI 1) F dX2_clearColumn_95 (by decide) ?_
          refine z_aload F dX2_clearColumn_96 rfl ?_
          refine z_cVz F (K_add (d := true) hK2 hJ hA hS zpk d8 zpk) dX2_clearColumn_98 ml_X2_87 ok_X0_add hA.1 (by decide) rfl rfl rfl (Nat.le_of_ble_eq_true rfl) (by decide) (by decide) (fun r S' hr => ?_)
          obtain ⟨rfl, V3, rfl, hK3, hF3⟩ := hr
          rw [t2p, t2d, ← hsm] at hK3 ⊢
          refine z_if_ne (tgt := 106) F dX2_clearColumn_101 (by decide) (fun c3 => ?_) (fun c3 => ?_)
          · have hws : wideB sm = true := by
              cases h : wideB sm with
              | true => rfl
              | false => rw [h] at c3; exact absurd rfl c3
            rw [upW_t hws] at hK3
            rw [if_pos hws] at hsp
            refine z_iinc_5 F dX2_clearColumn_106 rfl ?_
            refine z_goto (tgt := 43) F dX2_clearColumn_109 (by decide) ?_
            rw [show nI k + Int32.ofInt 1 = nI (k + 1) from nI_1 k]
            refine ih (k + 1) V3 _ _ _ (by omega) (by omega) hK3 ((hF1.trans hF2).trans hF3) ((hT1.trans tS.ofPd).trans (tS.ofWe lpk)) (eM.up hR hI (eM.out hI hM1 (fun i hi => hwo hi pd (Or.inr rfl))) hp hkn) ?_ hsp
            rw [up_ne _ _ (hwo lpk fa (Or.inl rfl)), t2f]
          · have hws : ¬ wideB sm = true := by
              have := (zb_eq0 _).mp c3
              rw [this]; decide
            rw [upW_f hws] at hK3
            rw [if_neg hws] at hsp
            exact bad V3 _ _ hK3 ((hF1.trans hF2).trans hF3) (hT1.trans tS.ofPd) hsp.symm
  refine z_iload_n F dX2_clearColumn_38 rfl ?_
  refine z_iconst (v := nI 1) F dX2_clearColumn_39 (by decide) ?_
  refine z_iadd F dX2_clearColumn_40 ?_
  refine z_ti (nI_add j 1) ?_
  refine z_istore_5 F dX2_clearColumn_41 rfl ?_
  by_cases hje : j + 1 ≤ e
  · exact loop (e - (j + 1)) (j + 1) V1 _ M _ (by omega) (by omega) hK1 hF1 tS.ofFa (eM.out hI hM (fun i hi => hwo hi fa (Or.inl rfl))) (up_self _ _ _) rfl
  · -- no column behind: the loop ends at once
    have h0 : e - (j + 1) = 0 := by omega
    rw [h0] at hclr
    have hI1 := hI.keep hF1 hra hco
    refine z_iload F dX2_clearColumn_43 rfl ?_
    refine z_iload_n F dX2_clearColumn_45 rfl ?_
    refine z_icmp_ge (tgt := 112) F dX2_clearColumn_46 (by decide) (fun c => ?_) (fun c => ?_)
    · refine z_aload_n F dX2_clearColumn_112 rfl ?_
      refine z_iload_n F dX2_clearColumn_113 rfl ?_
      refine z_iload_n F dX2_clearColumn_114 rfl ?_
      refine z_cVr F (c_at hR hI1 hp (Nat.le_of_lt hj)) dX2_clearColumn_115 ml_X2_57 ok_X2_at b0 (by decide) rfl rfl rfl (Nat.le_of_ble_eq_true rfl) (by decide) (by decide) (fun r S' hr => ?_)
      obtain ⟨rfl, rfl⟩ := hr
      refine z_cVv F (K_setZero hK1 hJ hS zp) dX2_clearColumn_118 ml_X2_90 ok_X3_setZero zp (by decide) rfl rfl rfl (Nat.le_of_ble_eq_true rfl) (by decide) (by decide) (fun S' hS' => ?_)
      obtain ⟨V2, rfl, hK2, hF2⟩ := hS'
      subst hQ
      refine z_iconst (v := nI 1) F dX2_clearColumn_121 (by decide) ?_
      exact z_zret F true dX2_clearColumn_122 rfl rfl ⟨V2, _, rfl, hK2, hF1.trans hF2, tS.ofFa.trans (tS.ofWe (idx_lt (hI.2.2.2.1 p hp).2 (Nat.le_of_lt hj))), Or.inr ⟨_, hclr, rfl, eM.up hR hI (eM.out hI hM (fun i hi => hwo hi fa (Or.inl rfl))) hp (Nat.le_of_lt hj)⟩⟩
    · exact absurd (nI_le (by omega) (by omega)) c
end ELIM2
