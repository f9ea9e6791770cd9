/-! ===== Determinants: addOrder, addOrders ===== -/
section DET4
variable {Γ : Gm} {Z : Hz} {V : Hv} {T : Nat → Fr} {X : Nat → Nat} {uo vo w ee : Nat → Nat} {n A D oa pr q re : Nat} {o : Nat → Nat}
set_option maxRecDepth 100000 in
set_option maxHeartbeats 1000000 in
theorem c_addOrder (hK : KS Z uo vo w V T X) (hJ : wInj Z) (hA : aR Z A w) (hS : fS Z uo vo w) (hD : dR Z D n A oa pr) (hn0 : vI V 1 0 D = nI n) (hO : oO V n oa o) (hre : aF Z re (n * (n + 1)) ee) (hq : zIn Z q 3) (hqp : q ≠ pr) (hee : ∀ k, k < n * (n + 1) → ee k ≠ q ∧ ee k ≠ pr) : zCt Γ mX1_addOrder 5 141 0 0 [.ref D, .ref re, .ref q] (Z, V) (pZ (fun r S' => ∃ V' T', S' = (Z, V') ∧ KS Z uo vo w V' T' X ∧ eF Z V V' ∧ tN (fun q' => q' = q ∨ q' = pr) T T' ∧ ((detA n (mE T n ee) o (T q) = none ∧ r = false) ∨ ∃ x, detA n (mE T n ee) o (T q) = some x ∧ r = true ∧ T' q = x))) := by
  refine zCt.of [some (.ref D), some (.ref re), some (.ref q), none] pn_X1_addOrder rfl (Nat.le_of_ble_eq_true rfl) rfl (fun κ F => ?_)
  obtain ⟨⟨b0, b1, b2, b3⟩, ⟨d1, d2, d3⟩, hoa, n1, n5⟩ := id hD
  obtain ⟨f, hf⟩ : ∃ f : Nat → Fr, f = fun i => mE T n ee i (o i) := ⟨_, rfl⟩
  have ze : ∀ i, i < n → zIn Z (ee (i * (n + 1) + o i)) 3 := fun i hi => (hre.2.2 _ (idx_lt hi (Nat.le_of_lt (hO i hi).2))).2
  have en : ∀ i, i < n → ee (i * (n + 1) + o i) ≠ q ∧ ee (i * (n + 1) + o i) ≠ pr := fun i hi => hee _ (idx_lt hi (Nat.le_of_lt (hO i hi).2))
  have hdet : ∀ p, detA n (mE T n ee) o (T q) = p ↔ (match prP f (n - 1) 1 (f 0) with
      | none => none
      | some p => if wideB (fadd (T q) p (odI o n n 0 false)) = true then some (fadd (T q) p (odI o n n 0 false)) else none) = p := fun p => by rw [hf]; exact Iff.rfl
  have h0n : vp_in (nI 0) n := vp_in_nI n1 (by omega)
  refine z_aload_n F dX1_addOrder_0 rfl ?_
  refine z_getR F dX1_addOrder_1 gr_X1_10 (by assumption) (by assumption) ?_
  refine z_aload_n F dX1_addOrder_4 rfl ?_
  refine z_aload_n F dX1_addOrder_5 rfl ?_
  refine z_iconst (v := nI 0) F dX1_addOrder_6 (by decide) ?_
  refine z_cVr F (c_inRow (i := 0) hD hn0 hO hre n1) dX1_addOrder_7 ml_X1_69 ok_X1_inRow b0 (by decide) rfl rfl rfl (Nat.le_of_ble_eq_true rfl) (by decide) (by decide) (fun r S' hr => ?_)
  obtain ⟨rfl, rfl⟩ := hr
  refine z_cVv F (K_copy hK hJ hS d3 (ze 0 n1)) dX1_addOrder_10 ml_X1_40 ok_X3_copy d3 (by decide) rfl rfl rfl (Nat.le_of_ble_eq_true rfl) (by decide) (by decide) (fun S' hS' => ?_)
  obtain ⟨V2, rfl, hK2, hF2⟩ := hS'
  rw [show T (ee (0 * (n + 1) + o 0)) = f 0 by rw [hf]] at hK2
  generalize hQ : zQ Γ κ (pZ (fun r S' => ∃ V' T', S' = (Z, V') ∧ KS Z uo vo w V' T' X ∧ eF Z V V' ∧ tN (fun q' => q' = q ∨ q' = pr) T T' ∧ ((detA n (mE T n ee) o (T q) = none ∧ r = false) ∨ ∃ x, detA n (mE T n ee) o (T q) = some x ∧ r = true ∧ T' q = x))) 0 0 = Q
  have loop : ∀ (d t : Nat) (V1 : Hv) (T1 : Nat → Fr) (x : Fr), t + d = n → 1 ≤ t → KS Z uo vo w V1 T1 X → eF Z V V1 → tN (fun q' => q' = pr) T T1 → T1 pr = x → prP f d t x = prP f (n - 1) 1 (f 0) → zX Γ κ (Z, V1) 0 0 Q 15 [some (.ref D), some (.ref re), some (.ref q), some (.int (nI t))] [] := by
    intro d
    induction d with
    | zero =>
      intro t V1 T1 x hd ht1 hK1 hF1 hT1 hx hsp
      have hO1 := hO.keep hF1 hoa
      have hn1 := eF.n1 hF1 hn0
      have eq1 : T1 q = T q := hT1 q hqp
      refine z_iload_n F dX1_addOrder_15 rfl ?_
      refine z_aload_n F dX1_addOrder_16 rfl ?_
      refine z_getI F dX1_addOrder_17 gi_X1_16 (by assumption) ?_
      refine z_ti hn1 ?_
      refine z_icmp_ge (tgt := 56) F dX1_addOrder_20 (by decide) (fun c => ?_) (fun c => ?_)
      · refine z_aload_n F dX1_addOrder_56 rfl ?_
        refine z_getR F dX1_addOrder_57 gr_X1_20 (by assumption) (by assumption) ?_
        refine z_aload_n F dX1_addOrder_60 rfl ?_
        refine z_aload_n F dX1_addOrder_61 rfl ?_
        refine z_getR F dX1_addOrder_62 gr_X1_10 (by assumption) (by assumption) ?_
        refine z_aload_n F dX1_addOrder_65 rfl ?_
        refine z_cVz F (c_fallsOddly hD hn1 hO1) dX1_addOrder_66 ml_X1_76 ok_X1_fallsOddly b0 (by decide) rfl rfl rfl (Nat.le_of_ble_eq_true rfl) (by decide) (by decide) (fun r S' hr => ?_)
        obtain ⟨rfl, rfl⟩ := hr
        refine z_aload_n F dX1_addOrder_69 rfl ?_
        refine z_cVz F (K_add (d := odI o n n 0 false) hK1 hJ hA hS hq d3 hq) dX1_addOrder_70 ml_X1_79 ok_X0_add hA.1 (by decide) rfl rfl rfl (Nat.le_of_ble_eq_true rfl) (by decide) (by decide) (fun r S' hr => ?_)
        obtain ⟨rfl, V3, rfl, hK3, hF3⟩ := hr
        rw [eq1, hx] at hK3 ⊢
        generalize hy : fadd (T q) x (odI o n n 0 false) = y at hK3 ⊢
        have hdet2 : detA n (mE T n ee) o (T q) = if wideB y = true then some y else none := by
          rw [hdet, ← hsp]
          show (if wideB (fadd (T q) x (odI o n n 0 false)) = true then some (fadd (T q) x (odI o n n 0 false)) else none) = _
          rw [hy]
        subst hQ
        by_cases hwp : wideB y = true
        · rw [upW_t hwp] at hK3
          rw [if_pos hwp] at hdet2
          exact z_zret F (wideB y) dX1_addOrder_73 rfl rfl ⟨V3, _, rfl, hK3, hF1.trans hF3, (show tN (fun q' => q' = q ∨ q' = pr) T T1 from fun q' h => hT1 q' (fun z => h (Or.inr z))).trans (tN.up (Or.inl rfl)), Or.inr ⟨y, hdet2, hwp, up_self _ _ _⟩⟩
        · rw [upW_f hwp] at hK3
          rw [if_neg hwp] at hdet2
          exact z_zret F (wideB y) dX1_addOrder_73 rfl rfl ⟨V3, _, rfl, hK3, hF1.trans hF3, fun q' h => hT1 q' (fun z => h (Or.inr z)), Or.inl ⟨hdet2, by simpa using hwp⟩⟩
      · exact absurd (nI_le (by omega) (by omega)) c
    | succ d ih =>
      intro t V1 T1 x hd ht1 hK1 hF1 hT1 hx hsp
      have htn : t < n := by omega
      have hO1 := hO.keep hF1 hoa
      have hn1 := eF.n1 hF1 hn0
      have eT : T1 (ee (t * (n + 1) + o t)) = f t := by rw [hT1 _ (en t htn).2, hf]
      simp only [prP] at hsp
      refine z_iload_n F dX1_addOrder_15 rfl ?_
      refine z_aload_n F dX1_addOrder_16 rfl ?_
      refine z_getI F dX1_addOrder_17 gi_X1_16 (by assumption) ?_
      refine z_ti hn1 ?_
      refine z_icmp_ge (tgt := 56) F dX1_addOrder_20 (by decide) (fun c => ?_) (fun c => ?_)
      · exact absurd ((nI_leI (by omega) (by omega)).mp c) (by omega)
      · refine z_aload_n F dX1_addOrder_23 rfl ?_
        refine z_getR F dX1_addOrder_24 gr_X1_20 (by assumption) (by assumption) ?_
        refine z_aload_n F dX1_addOrder_27 rfl ?_
        refine z_getR F dX1_addOrder_28 gr_X1_10 (by assumption) (by assumption) ?_
        refine z_aload_n F dX1_addOrder_31 rfl ?_
        refine z_aload_n F dX1_addOrder_32 rfl ?_
        refine z_iload_n F dX1_addOrder_33 rfl ?_
        refine z_cVr F (c_inRow (i := t) hD hn1 hO1 hre htn) dX1_addOrder_34 ml_X1_69 ok_X1_inRow b0 (by decide) rfl rfl rfl (Nat.le_of_ble_eq_true rfl) (by decide) (by decide) (fun r S' hr => ?_)
        obtain ⟨rfl, rfl⟩ := hr
        refine z_iconst (v := nI 0) F dX1_addOrder_37 (by decide) ?_
        refine z_aload_n F dX1_addOrder_38 rfl ?_
        refine z_getR F dX1_addOrder_39 gr_X1_10 (by assumption) (by assumption) ?_
        refine z_cVz F (K_multiply (d := false) hK1 hJ hA hS d3 (ze t htn) d3 (fun h => by cases h)) dX1_addOrder_42 ml_X1_44 ok_X0_multiply hA.1 (by decide) rfl rfl rfl (Nat.le_of_ble_eq_true rfl) (by decide) (by decide) (fun r S' hr => ?_)
        obtain ⟨rfl, V3, rfl, hK3, hF3⟩ := hr
        rw [eT, hx] at hK3 ⊢
        refine z_if_ne (tgt := 50) F dX1_addOrder_45 (by decide) (fun c2 => ?_) (fun c2 => ?_)
        · have hwp := zb_t c2
          rw [upW_t hwp] at hK3
          rw [if_pos hwp] at hsp
          refine z_iinc_3 F dX1_addOrder_50 rfl ?_
          refine z_goto (tgt := 15) F dX1_addOrder_53 (by decide) ?_
          rw [show nI t + Int32.ofInt 1 = nI (t + 1) from nI_1 t]
          exact ih (t + 1) V3 _ _ (by omega) (by omega) hK3 (hF1.trans hF3) (hT1.trans (tN.up rfl)) (up_self _ _ _) hsp
        · have hwp := zb_f c2
          rw [upW_f hwp] at hK3
          rw [if_neg hwp] at hsp
          have hdet2 : detA n (mE T n ee) o (T q) = none := by rw [hdet, ← hsp]
          subst hQ
          refine z_iconst (v := nI 0) F dX1_addOrder_48 (by decide) ?_
          exact z_zret F false dX1_addOrder_49 rfl rfl ⟨V3, _, rfl, hK3, hF1.trans hF3, fun q' h => hT1 q' (fun z => h (Or.inr z)), Or.inl ⟨hdet2, rfl⟩⟩
  refine z_iconst (v := nI 1) F dX1_addOrder_13 (by decide) ?_
  refine z_istore_n_3 F dX1_addOrder_14 rfl ?_
  exact loop (n - 1) 1 V2 _ (f 0) (by omega) (Nat.le_refl _) hK2 hF2 (tN.up rfl) (up_self _ _ _) rfl
set_option maxRecDepth 100000 in
set_option maxHeartbeats 1000000 in
theorem c_addOrders (hK : KS Z uo vo w V T X) (hJ : wInj Z) (hA : aR Z A w) (hS : fS Z uo vo w) (hD : dR Z D n A oa pr) (hn0 : vI V 1 0 D = nI n) (hre : aF Z re (n * (n + 1)) ee) (hq : zIn Z q 3) (hqp : q ≠ pr) (hee : ∀ k, k < n * (n + 1) → ee k ≠ q ∧ ee k ≠ pr) : zCt Γ mX1_addOrders 6 164 0 0 [.ref D, .ref re, .ref q] (Z, V) (pZ (fun r S' => ∃ V' T', S' = (Z, V') ∧ KS Z uo vo w V' T' X ∧ gT Z oa V V' ∧ tN (fun q' => q' = q ∨ q' = pr) T T' ∧ ((detO n (mE T n ee) = none ∧ r = false) ∨ ∃ x, detO n (mE T n ee) = some x ∧ r = true ∧ T' q = x))) := by
  refine zCt.of [some (.ref D), some (.ref re), some (.ref q), none] pn_X1_addOrders rfl (Nat.le_of_ble_eq_true rfl) rfl (fun κ F => ?_)
  obtain ⟨⟨b0, b1, b2, b3⟩, ⟨d1, d2, d3⟩, hoa, n1, n5⟩ := id hD
  obtain ⟨M, hM⟩ : ∃ M : Mx, M = mE T n ee := ⟨_, rfl⟩
  rw [← hM]
  generalize hQ : zQ Γ κ (pZ (fun r S' => ∃ V' T', S' = (Z, V') ∧ KS Z uo vo w V' T' X ∧ gT Z oa V V' ∧ tN (fun q' => q' = q ∨ q' = pr) T T' ∧ ((detO n M = none ∧ r = false) ∨ ∃ x, detO n M = some x ∧ r = true ∧ T' q = x))) 0 0 = Q
  -- what only reads places below n is the same by the entries as they stand
  have hMz : ∀ {T1 : Nat → Fr} {o : Nat → Nat}, tN (fun q' => q' = q ∨ q' = pr) T T1 → (∀ p, p < n → o p < n) → ∀ p, p < n → mE T1 n ee p (o p) = M p (o p) := by
    intro T1 o hT1 ho p hp
    have := hee _ (idx_lt hp (Nat.le_of_lt (ho p hp)))
    rw [hM]
    exact hT1 _ (fun h => by rcases h with h | h; exact this.1 h; exact this.2 h)
  have mz_eq : ∀ {f g : Nat → Fr} (d i : Nat), i + d ≤ n → (∀ p, p < n → f p = g p) → mz f d i = mz g d i := by
    intro f g d
    induction d with
    | zero => intro i _ _; rfl
    | succ d ih => intro i hi h; simp only [mz]; rw [h i (by omega), ih (i + 1) (by omega) h]
  have prP_eq : ∀ {f g : Nat → Fr} (d i : Nat) (x : Fr), i + d ≤ n → (∀ p, p < n → f p = g p) → prP f d i x = prP g d i x := by
    intro f g d
    induction d with
    | zero => intro i x _ _; rfl
    | succ d ih => intro i x hi h; simp only [prP]; rw [h i (by omega), ih (i + 1) _ (by omega) h]
  have detA_eq : ∀ {T1 : Nat → Fr} {o : Nat → Nat} (x : Fr), tN (fun q' => q' = q ∨ q' = pr) T T1 → (∀ p, p < n → o p < n) → detA n (mE T1 n ee) o x = detA n M o x := by
    intro T1 o x hT1 ho
    unfold detA
    rw [prP_eq (f := fun i => mE T1 n ee i (o i)) (g := fun i => M i (o i)) (n - 1) 1 _ (by omega) (hMz hT1 ho), hMz hT1 ho 0 n1]
  have loop : ∀ (d i : Nat) (V1 : Hv) (T1 : Nat → Fr) (o : Nat → Nat) (x : Fr), i + d = 120 → KS Z uo vo w V1 T1 X → gT Z oa V V1 → tN (fun q' => q' = q ∨ q' = pr) T T1 → T1 q = x → oO V1 n oa o → detT n M d o x = detO n M → zX Γ κ (Z, V1) 0 0 Q 29 [some (.ref D), some (.ref re), some (.ref q), some (.int (nI i))] [] := by
    intro d
    induction d with
    | zero =>
      intro i V1 T1 o x hi hK1 hG1 hT1 hx hO1 hsp
      refine z_iload_n F dX1_addOrders_29 rfl ?_
      refine z_bipush (v := nI 120) F dX1_addOrders_30 (by decide) ?_
      refine z_icmp_ge (tgt := 69) F dX1_addOrders_32 (by decide) (fun c => ?_) (fun c => ?_)
      · subst hQ
        refine z_iconst (v := nI 1) F dX1_addOrders_69 (by decide) ?_
        exact z_zret F true dX1_addOrders_70 rfl rfl ⟨V1, T1, rfl, hK1, hG1, hT1, Or.inr ⟨x, hsp.symm, rfl, hx⟩⟩
      · exact absurd (nI_le (a := 120) (by omega) (by omega)) c
    | succ d ih =>
      intro i V1 T1 o x hi hK1 hG1 hT1 hx hO1 hsp
      have hn1 := gT.n1 hG1 hn0
      have ho := fun p hp => (hO1 p hp).2
      simp only [detT] at hsp
      -- behind the order's own sum
      have next : ∀ (V2 : Hv) (T2 : Nat → Fr) (y : Fr), KS Z uo vo w V2 T2 X → gT Z oa V V2 → tN (fun q' => q' = q ∨ q' = pr) T T2 → T2 q = y → oO V2 n oa o → detS n M o x = some y → zX Γ κ (Z, V2) 0 0 Q 54 [some (.ref D), some (.ref re), some (.ref q), some (.int (nI i))] [] := by
        intro V2 T2 y hK2 hG2 hT2 hy hO2 hs
        rw [hs] at hsp
        simp only at hsp
        have hn2 := gT.n1 hG2 hn0
        refine z_aload_n F dX1_addOrders_54 rfl ?_
        refine z_cVz F (c_goOn hK2 hD hn2 hO2) dX1_addOrders_55 ml_X1_65 ok_X1_goOn b0 (by decide) rfl rfl rfl (Nat.le_of_ble_eq_true rfl) (by decide) (by decide) (fun r S' hr => ?_)
        obtain ⟨V3, rfl, hK3, hG3, hcase⟩ := hr
        rcases hcase with ⟨hno, rfl⟩ | ⟨o', hso, rfl, hO3⟩
        · rw [hno] at hsp
          refine z_if_ne (tgt := 63) F dX1_addOrders_58 (by decide) (fun c => ?_) (fun c => ?_)
          · exact absurd rfl c
          · subst hQ
            refine z_iconst (v := nI 1) F dX1_addOrders_61 (by decide) ?_
            exact z_zret F true dX1_addOrders_62 rfl rfl ⟨V3, T2, rfl, hK3, hG2.trans hG3, hT2, Or.inr ⟨y, hsp.symm, rfl, hy⟩⟩
        · rw [hso] at hsp
          refine z_if_ne (tgt := 63) F dX1_addOrders_58 (by decide) (fun c => ?_) (fun c => ?_)
          · refine z_iinc_3 F dX1_addOrders_63 rfl ?_
            refine z_goto (tgt := 29) F dX1_addOrders_66 (by decide) ?_
            rw [show nI i + Int32.ofInt 1 = nI (i + 1) from nI_1 i]
            exact ih (i + 1) V3 T2 o' y (by omega) hK3 (hG2.trans hG3) hT2 hy hO3 hsp
          · exact absurd c (by decide)
      refine z_iload_n F dX1_addOrders_29 rfl ?_
      refine z_bipush (v := nI 120) F dX1_addOrders_30 (by decide) ?_
      refine z_icmp_ge (tgt := 69) F dX1_addOrders_32 (by decide) (fun c => ?_) (fun c => ?_)
      · exact absurd ((nI_leI (a := 120) (by omega) (by omega)).mp c) (by omega)
      · refine z_aload_n F dX1_addOrders_35 rfl ?_
        refine z_aload_n F dX1_addOrders_36 rfl ?_
        refine z_cVz F (c_meetsZero hK1 hS hD hn1 hO1 hre) dX1_addOrders_37 ml_X1_57 ok_X1_meetsZero b0 (by decide) rfl rfl rfl (Nat.le_of_ble_eq_true rfl) (by decide) (by decide) (fun r S' hr => ?_)
        obtain ⟨rfl, rfl⟩ := hr
        have emz := mz_eq (f := fun i => mE T1 n ee i (o i)) (g := fun i => M i (o i)) n 0 (by omega) (hMz hT1 ho)
        rw [emz]
        refine z_if_ne (tgt := 54) F dX1_addOrders_40 (by decide) (fun c2 => ?_) (fun c2 => ?_)
        · have h := zb_t c2
          exact next V1 T1 x hK1 hG1 hT1 hx hO1 (by unfold detS; rw [if_pos h])
        · have h := zb_f c2
          have hds : detS n M o x = detA n M o x := by unfold detS; rw [if_neg h]
          refine z_aload_n F dX1_addOrders_43 rfl ?_
          refine z_aload_n F dX1_addOrders_44 rfl ?_
          refine z_aload_n F dX1_addOrders_45 rfl ?_
          refine z_cVz F (c_addOrder hK1 hJ hA hS hD hn1 hO1 hre hq hqp hee) dX1_addOrders_46 ml_X1_61 ok_X1_addOrder b0 (by decide) rfl rfl rfl (Nat.le_of_ble_eq_true rfl) (by decide) (by decide) (fun r S' hr => ?_)
          obtain ⟨V3, T3, rfl, hK3, hF3, hT3, hcase⟩ := hr
          rw [detA_eq _ hT1 ho, hx, ← hds] at hcase
          rcases hcase with ⟨hno, rfl⟩ | ⟨y, hso, rfl, hy⟩
          · rw [hno] at hsp
            refine z_if_ne (tgt := 54) F dX1_addOrders_49 (by decide) (fun c3 => ?_) (fun c3 => ?_)
            · exact absurd rfl c3
            · subst hQ
              refine z_iconst (v := nI 0) F dX1_addOrders_52 (by decide) ?_
              exact z_zret F false dX1_addOrders_53 rfl rfl ⟨V3, T3, rfl, hK3, hG1.trans (gT.ofF hF3), hT1.trans hT3, Or.inl ⟨hsp.symm, rfl⟩⟩
          · refine z_if_ne (tgt := 54) F dX1_addOrders_49 (by decide) (fun c3 => ?_) (fun c3 => ?_)
            · exact next V3 T3 y hK3 (hG1.trans (gT.ofF hF3)) (hT1.trans hT3) hy (hO1.keep hF3 hoa) hso
            · exact absurd c3 (by decide)
  have fillo : ∀ (d i : Nat) (V1 : Hv) (T1 : Nat → Fr), i + d = n → KS Z uo vo w V1 T1 X → gT Z oa V V1 → tN (fun q' => q' = q ∨ q' = pr) T T1 → T1 q = f0 → (∀ p, p < i → vA V1 oa p = nI p) → zX Γ κ (Z, V1) 0 0 Q 6 [some (.ref D), some (.ref re), some (.ref q), some (.int (nI i))] [] := by
    intro d
    induction d with
    | zero =>
      intro i V1 T1 hi hK1 hG1 hT1 hx hA1
      refine z_iload_n F dX1_addOrders_6 rfl ?_
      refine z_aload_n F dX1_addOrders_7 rfl ?_
      refine z_getI F dX1_addOrders_8 gi_X1_16 (by assumption) ?_
      refine z_ti (gT.n1 hG1 hn0) ?_
      refine z_icmp_ge (tgt := 27) F dX1_addOrders_11 (by decide) (fun c => ?_) (fun c => ?_)
      · refine z_iconst (v := nI 0) F dX1_addOrders_27 (by decide) ?_
        refine z_istore_n_3 F dX1_addOrders_28 rfl ?_
        exact loop 120 0 V1 T1 (fun i => i) f0 rfl hK1 hG1 hT1 hx (fun p hp => ⟨hA1 p (by omega), hp⟩) rfl
      · exact absurd (nI_le (by omega) (by omega)) c
    | succ d ih =>
      intro i V1 T1 hi hK1 hG1 hT1 hx hA1
      have ii : vp_in (nI i) (zn Z oa) := by rw [d2]; exact vp_in_nI (by omega) (by omega)
      obtain ⟨hK2, hG2⟩ := gT.setA1 (f := upd (vA V1 oa) (nI i).toNatClampNeg (nI i)) hK1 hoa
      refine z_iload_n F dX1_addOrders_6 rfl ?_
      refine z_aload_n F dX1_addOrders_7 rfl ?_
      refine z_getI F dX1_addOrders_8 gi_X1_16 (by assumption) ?_
      refine z_ti (gT.n1 hG1 hn0) ?_
      refine z_icmp_ge (tgt := 27) F dX1_addOrders_11 (by decide) (fun c => ?_) (fun c => ?_)
      · exact absurd ((nI_leI (by omega) (by omega)).mp c) (by omega)
      · refine z_aload_n F dX1_addOrders_14 rfl ?_
        refine z_getR F dX1_addOrders_15 gr_X1_24 (by assumption) (by assumption) ?_
        refine z_iload_n F dX1_addOrders_18 rfl ?_
        refine z_iload_n F dX1_addOrders_19 rfl ?_
        refine z_iast F dX1_addOrders_20 (by assumption) ii ?_
        refine z_iinc_3 F dX1_addOrders_21 rfl ?_
        refine z_goto (tgt := 6) F dX1_addOrders_24 (by decide) ?_
        rw [show nI i + Int32.ofInt 1 = nI (i + 1) from nI_1 i]
        refine ih (i + 1) _ T1 (by omega) hK2 (hG1.trans hG2) hT1 hx (fun p hp => ?_)
        show vA (sA V1 oa _) oa p = _
        rw [vA_sA_self, nI_clamp (show i < 2147483648 by omega)]
        by_cases e : p = i
        · rw [e, pk_us]
        · rw [pk_un e]; exact hA1 p (by omega)
  refine z_aload_n F dX1_addOrders_0 rfl ?_
  refine z_cVv F (K_setZero hK hJ hS hq) dX1_addOrders_1 ml_X1_28 ok_X3_setZero hq (by decide) rfl rfl rfl (Nat.le_of_ble_eq_true rfl) (by decide) (by decide) (fun S' hS' => ?_)
  obtain ⟨V1, rfl, hK1, hF1⟩ := hS'
  refine z_iconst (v := nI 0) F dX1_addOrders_4 (by decide) ?_
  refine z_istore_n_3 F dX1_addOrders_5 rfl ?_
  exact fillo n 0 V1 _ (by omega) hK1 (gT.ofF hF1) (tN.up (Or.inl rfl)) (up_self _ _ _) (fun p hp => absurd hp (Nat.not_lt_zero p))
end DET4
