/-! ===== Determinants ===== -/
def fneg (x : Fr) : Fr := (!x.1 && decide (x.2.1 ≠ 0), x.2.1, x.2.2)
/-- a product of many -/
def prP (f : Nat → Fr) : Nat → Nat → Fr → Option Fr
  | 0, _, x => some x
  | d + 1, t, x => if wideB (fmul x (f t) false) = true then prP f d (t + 1) (fmul x (f t) false) else none
def detP (n : Nat) (s : El) : Option Fr := if s.2.2.1 < n then some f0 else (prP (fun t => s.1 t (s.2.2.2.1 t)) (n - 1) 1 (s.1 0 (s.2.2.2.1 0))).map (fun x => if s.2.2.2.2.2 = true then fneg x else x)
/-- orders: where the last rise begins, what it is swapped with, what is behind turned round -/
def dsc (o : Nat → Nat) : Nat → Option Nat
  | 0 => none
  | i + 1 => if o (i + 1) < o i then dsc o i else some i
def fk (o : Nat → Nat) (i : Nat) : Nat → Nat
  | 0 => 0
  | k + 1 => if i + 1 < k + 1 ∧ o (k + 1) < o i then fk o i k else k + 1
def rvs : Nat → Nat → Nat → (Nat → Nat) → (Nat → Nat)
  | 0, _, _, o => o
  | d + 1, l, h, o => if l < h then rvs d (l + 1) (h - 1) (swp o l h) else o
def nxt (n : Nat) (o : Nat → Nat) : Option (Nat → Nat) := match dsc o (n - 1) with
  | none => none
  | some i => some (rvs n (i + 1) (n - 1) (swp o i (fk o i (n - 1))))
/-- pairs that fall, oddly many -/
def odK (o : Nat → Nat) (i : Nat) : Nat → Nat → Bool → Bool
  | 0, _, b => b
  | d + 1, k, b => odK o i d (k + 1) (if o k < o i then !b else b)
def odI (o : Nat → Nat) (n : Nat) : Nat → Nat → Bool → Bool
  | 0, _, b => b
  | d + 1, i, b => odI o n d (i + 1) (odK o i (n - (i + 1)) (i + 1) b)
def mz (f : Nat → Fr) : Nat → Nat → Bool
  | 0, _ => false
  | d + 1, i => if (f i).2.1 = 0 then true else mz f d (i + 1)
def detA (n : Nat) (M : Mx) (o : Nat → Nat) (x : Fr) : Option Fr := match prP (fun i => M i (o i)) (n - 1) 1 (M 0 (o 0)) with
  | none => none
  | some p => if wideB (fadd x p (odI o n n 0 false)) = true then some (fadd x p (odI o n n 0 false)) else none
def detS (n : Nat) (M : Mx) (o : Nat → Nat) (x : Fr) : Option Fr := if mz (fun i => M i (o i)) n 0 = true then some x else detA n M o x
def detT (n : Nat) (M : Mx) : Nat → (Nat → Nat) → Fr → Option Fr
  | 0, _, x => some x
  | d + 1, o, x => match detS n M o x with
    | none => none
    | some y => match nxt n o with
      | none => some y
      | some o' => detT n M d o' y
def detO (n : Nat) (M : Mx) : Option Fr := detT n M 120 (fun i => i) f0
theorem dsc_lt {o : Nat → Nat} : ∀ {m i : Nat}, dsc o m = some i → i < m
  | 0, i, h => by cases h
  | m + 1, i, h => by
    simp only [dsc] at h
    split at h
    · have := dsc_lt h; omega
    · cases h; omega
theorem fk_le {o : Nat → Nat} {i : Nat} : ∀ (k : Nat), fk o i k ≤ k
  | 0 => Nat.le_refl _
  | k + 1 => by
    simp only [fk]
    split
    · exact Nat.le_succ_of_le (fk_le k)
    · exact Nat.le_refl _
theorem swp_lt {o : Nat → Nat} {n a b : Nat} (h : ∀ p, p < n → o p < n) (ha : a < n) (hb : b < n) : ∀ p, p < n → swp o a b p < n := by
  intro p hp
  unfold swp
  split
  · exact h b hb
  · split
    · exact h a ha
    · exact h p hp
theorem rvs_lt {n : Nat} : ∀ (d l h : Nat) (o : Nat → Nat), (∀ p, p < n → o p < n) → h < n → ∀ p, p < n → rvs d l h o p < n
  | 0, _, _, o, ho, _, p, hp => ho p hp
  | d + 1, l, h, o, ho, hh, p, hp => by
    simp only [rvs]
    split
    · exact rvs_lt d (l + 1) (h - 1) _ (swp_lt ho (by omega) hh) (by omega) p hp
    · exact ho p hp
theorem nxt_lt {n : Nat} {o o' : Nat → Nat} (hn : 1 ≤ n) (ho : ∀ p, p < n → o p < n) (h : nxt n o = some o') : ∀ p, p < n → o' p < n := by
  unfold nxt at h
  split at h
  · cases h
  · rename_i i hi
    cases h
    have h1 := dsc_lt hi
    have h2 := fk_le (o := o) (i := i) (n - 1)
    exact rvs_lt n (i + 1) (n - 1) _ (swp_lt ho (by omega) (by omega)) (by omega)
/-- the Determinants at D -/
def dR (Z : Hz) (D n A oa pr : Nat) : Prop := (zIn Z D 1 ∧ zR Z 1 1 D = some A ∧ zR Z 1 2 D = some oa ∧ zR Z 1 3 D = some pr) ∧ (zIn Z oa 11 ∧ zn Z oa = n ∧ zIn Z pr 3) ∧ ¬ pA0 Z oa ∧ 1 ≤ n ∧ n ≤ 5
def gT (Z : Hz) (oa : Nat) (V V' : Hv) : Prop := eG pI0 (fun a => pA0 Z a ∨ a = oa) V V'
theorem gT.ofF {Z : Hz} {oa : Nat} {V V' : Hv} (h : eF Z V V') : gT Z oa V V' := h.g.mono (fun _ _ _ h => h) (fun _ h => Or.inl h)
/-- an order stands in an array -/
def oO (V : Hv) (n oa : Nat) (o : Nat → Nat) : Prop := ∀ p, p < n → vA V oa p = nI (o p) ∧ o p < n
theorem oO.keep {Z : Hz} {V V' : Hv} {n oa : Nat} {o : Nat → Nat} (h : oO V n oa o) (hF : eF Z V V') (ho : ¬ pA0 Z oa) : oO V' n oa o := fun p hp => by rw [hF.g.2.1 oa ho]; exact h p hp
section DET
variable {Γ : Gm} {Z : Hz} {V : Hv} {T : Nat → Fr} {X : Nat → Nat} {uo vo w we ee : Nat → Nat} {E n A wk ra co fa pd D oa pr q re : Nat} {o : Nat → Nat} {M : Mx}
theorem gT.setA1 {f : Nat → Int32} (hK : KS Z uo vo w V T X) (hn : ¬ pA0 Z oa) : KS Z uo vo w (sA V oa f) T X ∧ gT Z oa V (sA V oa f) := by
  have h : eG (fun _ _ _ => False) (fun b => b = oa) V (sA V oa f) := eG.setA V f rfl
  refine ⟨hK.keep h (fun _ _ _ z => z.elim) (fun b z => by rw [z]; exact hn), h.mono (fun _ _ _ z => z.elim) (fun b z => Or.inr z)⟩
theorem eF.n1 {V' : Hv} {x : Int32} (h : eF Z V V') (h0 : vI V 1 0 D = x) : vI V' 1 0 D = x := by rw [h.g.1 _ _ _ (fun h => by rcases h with h | h <;> exact absurd h.1 (by decide))]; exact h0
theorem gT.n1 {V' : Hv} {x : Int32} (h : gT Z oa V V') (h0 : vI V 1 0 D = x) : vI V' 1 0 D = x := by rw [h.1 _ _ _ (fun h => by rcases h with h | h <;> exact absurd h.1 (by decide))]; exact h0
set_option maxRecDepth 100000 in
set_option maxHeartbeats 1000000 in
theorem c_multiplyPivots {s : El} (hK : KS Z uo vo w V T X) (hJ : wInj Z) (hA : aR Z A w) (hS : fS Z uo vo w) (hRe : eR Z E n A wk ra co fa pd we) (hOe : eO V T E n ra co we s) (hD : dR Z D n A oa pr) (hn0 : vI V 1 0 D = nI n) (hq : zIn Z q 3) (hqw : ∀ k, k < n * (n + 1) → q ≠ we k) : zCt Γ mX1_multiplyPivots 5 141 0 0 [.ref D, .ref E, .ref q] (Z, V) (pZ (fun r S' => ∃ V' T', S' = (Z, V') ∧ KS Z uo vo w V' T' X ∧ eF Z V V' ∧ tN (fun q' => q' = q) T T' ∧ ((detP n s = none ∧ r = false) ∨ ∃ x, detP n s = some x ∧ r = true ∧ T' q = x))) := by
  refine zCt.of [some (.ref D), some (.ref E), some (.ref q), none] pn_X1_multiplyPivots rfl (Nat.le_of_ble_eq_true rfl) rfl (fun κ F => ?_)
  obtain ⟨⟨b0, b1, b2, b3⟩, ⟨d1, d2, d3⟩, hoa, n1, n5⟩ := id hD
  obtain ⟨⟨p0, p1, p2, p3, p4, p5, p6⟩, ⟨g1, g2, g3, g4, g5, g6, g7, g8⟩, hw, hwi, nfp, nrc, hra, hco, -, -⟩ := id hRe
  obtain ⟨hIe, hMe, hpv⟩ := id hOe
  have htn := hIe.2.2.2.2.2.2
  refine z_aload_n F dX1_multiplyPivots_0 rfl ?_
  refine z_cVv F (K_setZero hK hJ hS hq) dX1_multiplyPivots_1 ml_X1_28 ok_X3_setZero hq (by decide) rfl rfl rfl (Nat.le_of_ble_eq_true rfl) (by decide) (by decide) (fun S' hS' => ?_)
  obtain ⟨V1, rfl, hK1, hF1⟩ := hS'
  have hI1 := hIe.keep hF1 hra hco
  refine z_aload_n F dX1_multiplyPivots_4 rfl ?_
  refine z_getI F dX1_multiplyPivots_5 gi_X1_31 (by assumption) ?_
  refine z_ti hI1.2.1 ?_
  refine z_aload_n F dX1_multiplyPivots_8 rfl ?_
  refine z_getI F dX1_multiplyPivots_9 gi_X1_16 (by assumption) ?_
  refine z_ti (eF.n1 hF1 hn0) ?_
  refine z_icmp_ge (tgt := 17) F dX1_multiplyPivots_12 (by decide) (fun c => ?_) (fun c => ?_)
  · have ht : s.2.2.1 = n := by have := (nI_leI (by omega) (by omega)).mp c; omega
    have hdet : detP n s = (prP (fun t => s.1 t (s.2.2.2.1 t)) (n - 1) 1 (s.1 0 (s.2.2.2.1 0))).map (fun x => if s.2.2.2.2.2 = true then fneg x else x) := by unfold detP; rw [if_neg (by omega)]
    have hM1 : eM (va_up T q (false, 0, 1)) n we s.2.1 s.1 := eM.out hI1 hMe hqw
    obtain ⟨f, hf⟩ : ∃ f : Nat → Fr, f = fun t => s.1 t (s.2.2.2.1 t) := ⟨_, rfl⟩
    rw [show s.1 0 (s.2.2.2.1 0) = f 0 by rw [hf], ← hf] at hdet
    have hc0 := (hI1.2.2.2.2.2.1 0 (by omega)).2
    have zp := eR.at hRe hI1 (p := 0) (by omega) (Nat.le_of_lt hc0)
    refine z_aload_n F dX1_multiplyPivots_17 rfl ?_
    refine z_aload_n F dX1_multiplyPivots_18 rfl ?_
    refine z_iconst (v := nI 0) F dX1_multiplyPivots_19 (by decide) ?_
    refine z_cVr F (c_pivotAt (p := 0) hRe hI1 (by omega)) dX1_multiplyPivots_20 ml_X1_36 ok_X2_pivotAt p0 (by decide) rfl rfl rfl (Nat.le_of_ble_eq_true rfl) (by decide) (by decide) (fun r S' hr => ?_)
    obtain ⟨rfl, rfl⟩ := hr
    refine z_cVv F (K_copy hK1 hJ hS hq zp) dX1_multiplyPivots_23 ml_X1_40 ok_X3_copy hq (by decide) rfl rfl rfl (Nat.le_of_ble_eq_true rfl) (by decide) (by decide) (fun S' hS' => ?_)
    obtain ⟨V2, rfl, hK2, hF2⟩ := hS'
    have hp0 : va_up T q (false, 0, 1) (we (s.2.1 0 * (n + 1) + s.2.2.2.1 0)) = f 0 := by rw [hM1 0 _ (by omega) (Nat.le_of_lt hc0), hf]
    rw [hp0] at hK2
    generalize hQ : zQ Γ κ (pZ (fun r S' => ∃ V' T', S' = (Z, V') ∧ KS Z uo vo w V' T' X ∧ eF Z V V' ∧ tN (fun q' => q' = q) T T' ∧ ((detP n s = none ∧ r = false) ∨ ∃ x, detP n s = some x ∧ r = true ∧ T' q = x))) 0 0 = Q
    have loop : ∀ (d t : Nat) (V1 : Hv) (T1 : Nat → Fr) (x : Fr), t + d = n → 1 ≤ t → KS Z uo vo w V1 T1 X → eF Z V V1 → tN (fun q' => q' = q) T T1 → T1 q = x → prP f d t x = prP f (n - 1) 1 (f 0) → zX Γ κ (Z, V1) 0 0 Q 28 [some (.ref D), some (.ref E), some (.ref q), some (.int (nI t))] [] := by
      intro d
      induction d with
      | zero =>
        intro t V1 T1 x hd ht1 hK1 hF1 hT1 hx hsp
        have hI1 := hIe.keep hF1 hra hco
        rw [← hsp] at hdet
        refine z_iload_n F dX1_multiplyPivots_28 rfl ?_
        refine z_aload_n F dX1_multiplyPivots_29 rfl ?_
        refine z_getI F dX1_multiplyPivots_30 gi_X1_16 (by assumption) ?_
        refine z_ti (eF.n1 hF1 hn0) ?_
        refine z_icmp_ge (tgt := 62) F dX1_multiplyPivots_33 (by decide) (fun c => ?_) (fun c => ?_)
        · refine z_aload_n F dX1_multiplyPivots_62 rfl ?_
          refine z_getI F dX1_multiplyPivots_63 gi_X1_50 (by assumption) ?_
          refine z_ti hI1.2.2.1 ?_
          refine z_if_eq (tgt := 73) F dX1_multiplyPivots_66 (by decide) (fun c2 => ?_) (fun c2 => ?_)
          · have ho := zb_f c2
            have hdet2 : detP n s = some x := by rw [hdet]; show some (if _ then _ else _) = _; rw [if_neg ho]
            subst hQ
            refine z_iconst (v := nI 1) F dX1_multiplyPivots_73 (by decide) ?_
            exact z_zret F true dX1_multiplyPivots_74 rfl rfl ⟨V1, T1, rfl, hK1, hF1, hT1, Or.inr ⟨x, hdet2, rfl, hx⟩⟩
          · have ho := zb_t c2
            have hdet2 : detP n s = some (fneg x) := by rw [hdet]; show some (if _ then _ else _) = _; rw [if_pos ho]
            refine z_aload_n F dX1_multiplyPivots_69 rfl ?_
            refine z_cVv F (K_negate hK1 hS hq) dX1_multiplyPivots_70 ml_X1_54 ok_X3_negate hq (by decide) rfl rfl rfl (Nat.le_of_ble_eq_true rfl) (by decide) (by decide) (fun S' hS' => ?_)
            obtain ⟨V2, rfl, hK2, hF2⟩ := hS'
            subst hQ
            refine z_iconst (v := nI 1) F dX1_multiplyPivots_73 (by decide) ?_
            exact z_zret F true dX1_multiplyPivots_74 rfl rfl ⟨V2, _, rfl, hK2, hF1.trans hF2, hT1.trans (tN.up rfl), Or.inr ⟨fneg x, hdet2, rfl, by rw [up_self, hx]; rfl⟩⟩
        · exact absurd (nI_le (by omega) (by omega)) c
      | succ d ih =>
        intro t V1 T1 x hd ht1 hK1 hF1 hT1 hx hsp
        have hI1 := hIe.keep hF1 hra hco
        have hct := (hI1.2.2.2.2.2.1 t (by omega)).2
        have zt := eR.at hRe hI1 (p := t) (by omega) (Nat.le_of_lt hct)
        have eT : T1 (we (s.2.1 t * (n + 1) + s.2.2.2.1 t)) = f t := by
          rw [hT1 _ (fun h => hqw _ (idx_lt (hI1.2.2.2.1 t (by omega)).2 (Nat.le_of_lt hct)) h.symm), hMe t _ (by omega) (Nat.le_of_lt hct), hf]
        refine z_iload_n F dX1_multiplyPivots_28 rfl ?_
        refine z_aload_n F dX1_multiplyPivots_29 rfl ?_
        refine z_getI F dX1_multiplyPivots_30 gi_X1_16 (by assumption) ?_
        refine z_ti (eF.n1 hF1 hn0) ?_
        refine z_icmp_ge (tgt := 62) F dX1_multiplyPivots_33 (by decide) (fun c => ?_) (fun c => ?_)
        · exact absurd ((nI_leI (by omega) (by omega)).mp c) (by omega)
        · refine z_aload_n F dX1_multiplyPivots_36 rfl ?_
          refine z_getR F dX1_multiplyPivots_37 gr_X1_20 (by assumption) (by assumption) ?_
          refine z_aload_n F dX1_multiplyPivots_40 rfl ?_
          refine z_aload_n F dX1_multiplyPivots_41 rfl ?_
          refine z_iload_n F dX1_multiplyPivots_42 rfl ?_
          refine z_cVr F (c_pivotAt (p := t) hRe hI1 (by omega)) dX1_multiplyPivots_43 ml_X1_36 ok_X2_pivotAt p0 (by decide) rfl rfl rfl (Nat.le_of_ble_eq_true rfl) (by decide) (by decide) (fun r S' hr => ?_)
          obtain ⟨rfl, rfl⟩ := hr
          refine z_iconst (v := nI 0) F dX1_multiplyPivots_46 (by decide) ?_
          refine z_aload_n F dX1_multiplyPivots_47 rfl ?_
          refine z_cVz F (K_multiply (d := false) hK1 hJ hA hS hq zt hq (fun h => by cases h)) dX1_multiplyPivots_48 ml_X1_44 ok_X0_multiply hA.1 (by decide) rfl rfl rfl (Nat.le_of_ble_eq_true rfl) (by decide) (by decide) (fun r S' hr => ?_)
          obtain ⟨rfl, V2, rfl, hK2, hF2⟩ := hr
          rw [eT, hx] at hK2 ⊢
          simp only [prP] at hsp
          refine z_if_ne (tgt := 56) F dX1_multiplyPivots_51 (by decide) (fun c2 => ?_) (fun c2 => ?_)
          · have hwp := zb_t c2
            rw [upW_t hwp] at hK2
            rw [if_pos hwp] at hsp
            refine z_iinc_3 F dX1_multiplyPivots_56 rfl ?_
            refine z_goto (tgt := 28) F dX1_multiplyPivots_59 (by decide) ?_
            rw [show nI t + Int32.ofInt 1 = nI (t + 1) from nI_1 t]
            exact ih (t + 1) V2 _ _ (by omega) (by omega) hK2 (hF1.trans hF2) (hT1.trans (tN.up rfl)) (up_self _ _ _) hsp
          · have hwp := zb_f c2
            rw [upW_f hwp] at hK2
            rw [if_neg hwp] at hsp
            have hdet2 : detP n s = none := by rw [hdet, ← hsp]; rfl
            subst hQ
            refine z_iconst (v := nI 0) F dX1_multiplyPivots_54 (by decide) ?_
            exact z_zret F false dX1_multiplyPivots_55 rfl rfl ⟨V2, _, rfl, hK2, hF1.trans hF2, hT1, Or.inl ⟨hdet2, rfl⟩⟩
    refine z_iconst (v := nI 1) F dX1_multiplyPivots_26 (by decide) ?_
    refine z_istore_n_3 F dX1_multiplyPivots_27 rfl ?_
    exact loop (n - 1) 1 V2 _ (f 0) (by omega) (Nat.le_refl _) hK2 (hF1.trans hF2) (tN.trans (P := fun q' => q' = q) (tN.up rfl) (tN.up rfl)) (up_self _ _ _) rfl
  · have ht : s.2.2.1 < n := by
      rcases Nat.lt_or_ge s.2.2.1 n with h | h
      · exact h
      · exact absurd ((nI_leI (by omega) (by omega)).mpr h) c
    refine z_iconst (v := nI 1) F dX1_multiplyPivots_15 (by decide) ?_
    exact z_zret F true dX1_multiplyPivots_16 rfl rfl ⟨V1, _, rfl, hK1, hF1, tN.up rfl, Or.inr ⟨f0, by unfold detP; rw [if_pos ht], rfl, up_self _ _ _⟩⟩
end DET
