/-! ===== Arithmetic: setRatio; the state of all Fractions ===== -/
theorem iN_self (x : Int64) : iN x.toInt = x := by simp [iN]
theorem abs64 (x : Int64) : (if 0 < x then x else -x) = lN x.toInt.natAbs := by
  by_cases h : 0 < x
  · rw [if_pos h]
    rw [Int64.lt_iff_toInt_lt, show (0 : Int64).toInt = 0 from rfl] at h
    conv => lhs; rw [← iN_self x]
    rw [iN_nat]
    congr 1
    omega
  · rw [if_neg h]
    rw [Int64.lt_iff_toInt_lt, show (0 : Int64).toInt = 0 from rfl] at h
    conv => lhs; rw [← iN_self x]
    rw [iN_nat]
    show -Int64.ofInt _ = Int64.ofInt _
    rw [← Int64.ofInt_neg]
    congr 1
    omega
theorem abs64_lt (x : Int64) : x.toInt.natAbs < 18446744073709551616 := by
  have h1 := x.le_toInt
  have h2 := x.toInt_lt
  omega
theorem i64_0 (x : Int64) : x = lN 0 ↔ x.toInt.natAbs = 0 := by
  rw [← Int64.toInt_inj, show (lN 0).toInt = 0 from rfl]
  omega
/-- a ratio of two longs, in lowest terms -/
def fratio (u v : Int64) : Fr := norm (decide (u < 0) != decide (v < 0)) u.toInt.natAbs v.toInt.natAbs
theorem fratio_parts (u v : Int64) (hv : v.toInt.natAbs ≠ 0) : fratio u v = (decide (u.toInt.natAbs ≠ 0) && (decide (u < 0) != decide (v < 0)), u.toInt.natAbs / Nat.gcd u.toInt.natAbs v.toInt.natAbs, v.toInt.natAbs / Nat.gcd u.toInt.natAbs v.toInt.natAbs) := by
  unfold fratio norm
  by_cases h : u.toInt.natAbs = 0
  · rw [if_pos h, h, Nat.gcd_zero_left, Nat.zero_div, Nat.div_self (Nat.pos_of_ne_zero hv)]
    simp
  · rw [if_neg h]
    simp [h]
theorem fratio_ok (u v : Int64) (hv : v.toInt.natAbs ≠ 0) : fok (fratio u v) := by
  refine ⟨flow_norm _ _ (Nat.pos_of_ne_zero hv), ?_⟩
  rw [fratio_parts u v hv]
  have h1 := abs64_lt u
  have h2 := abs64_lt v
  have e : (18446744073709551616 : Nat) ≤ 4294967296 ^ 6 := by decide
  exact ⟨Nat.lt_of_le_of_lt (Nat.div_le_self _ _) (by omega), Nat.lt_of_le_of_lt (Nat.div_le_self _ _) (by omega)⟩
section RATIO
variable {Γ : Gm} {Z : Hz} {V : Hv} {val : Nat → Nat} {bel : Nat → Bool} {uo vo w : Nat → Nat} {A q : Nat}
set_option maxRecDepth 100000 in
set_option maxHeartbeats 1000000 in
theorem c_setRatio {xu xv : Int64} (hJ : wInj Z) (hA : aR Z A w) (hC : CF Z V val bel) (hS : fS Z uo vo w) (hq : zIn Z q 3) (hv : xv.toInt.natAbs ≠ 0) : zCt Γ mX0_setRatio 4 115 0 0 [.ref A, .long xu, .long xv, .ref q] (Z, V) (pV (tP Z V val bel uo vo w q (fratio xu xv))) := by
  refine zCt.of [some (.ref A), some (.long xu), none, some (.long xv), none, some (.ref q)] pn_X0_setRatio rfl (Nat.le_of_ble_eq_true rfl) rfl (fun κ F => ?_)
  obtain ⟨hA0, hAf, hAi⟩ := id hA
  obtain ⟨⟨-, p0, p1, iu, iv⟩, hout⟩ := hS.1 q hq
  obtain ⟨f6, i6⟩ := hAf 6 (by decide)
  obtain ⟨f7, i7⟩ := hAf 7 (by decide)
  have k6 : zIn Z (w 6) 7 := i6.choose_spec.1
  have k7 : zIn Z (w 7) 7 := i7.choose_spec.1
  have nw : ∀ {i j : Nat}, i < 12 → j < 12 → i ≠ j → w i ≠ w j := fun hi hj hij => hA.ne hi hj hij
  have sc : ∀ k, k < 12 → aW w (w k) := fun k hk => ⟨k, hk, rfl⟩
  have nuv : uo q ≠ vo q := (hS.2 q q hq hq).2.2
  rw [fratio_parts xu xv hv]
  generalize hU : xu.toInt.natAbs = U
  generalize hVv : xv.toInt.natAbs = W at hv
  have hU64 : U < 18446744073709551616 := by rw [← hU]; exact abs64_lt xu
  have hW64 : W < 18446744073709551616 := by rw [← hVv]; exact abs64_lt xv
  have e2 : (18446744073709551616 : Nat) ≤ 4294967296 ^ 14 := by decide
  refine z_aload_n F dX0_setRatio_0 rfl ?_
  refine z_getR F dX0_setRatio_1 gr_X0_31 (by assumption) (by assumption) ?_
  refine z_lload_n F dX0_setRatio_4 rfl ?_
  refine z_absl F dX0_setRatio_5 ml_X0_132 rfl ⟨by decide, Nat.le_of_ble_eq_true rfl⟩ (by decide) ?_
  refine z_tl ((abs64 xu).trans (congrArg lN hU)) ?_
  refine z_cVv F (C_setBits hC.1 hJ i6 hU64) dX0_setRatio_8 ml_X0_49 ok_X8_setBits k6 (by decide) rfl rfl rfl (Nat.le_of_ble_eq_true rfl) (by decide) (by decide) (fun S' hS' => ?_)
  obtain ⟨V1, rfl, hC1, hN1⟩ := hS'
  refine z_aload_n F dX0_setRatio_11 rfl ?_
  refine z_getR F dX0_setRatio_12 gr_X0_34 (by assumption) (by assumption) ?_
  refine z_lload_n F dX0_setRatio_15 rfl ?_
  refine z_absl F dX0_setRatio_16 ml_X0_132 rfl ⟨by decide, Nat.le_of_ble_eq_true rfl⟩ (by decide) ?_
  refine z_tl ((abs64 xv).trans (congrArg lN hVv)) ?_
  refine z_cVv F (C_setBits hC1 hJ i7 hW64) dX0_setRatio_19 ml_X0_49 ok_X8_setBits k7 (by decide) rfl rfl rfl (Nat.le_of_ble_eq_true rfl) (by decide) (by decide) (fun S' hS' => ?_)
  obtain ⟨V2, rfl, hC2, hN2⟩ := hS'
  generalize hv2 : va_up (va_up val (w 6) U) (w 7) W = v2 at hC2
  have E2 : eV (aW w) val v2 := by rw [← hv2]; exact ((eV.refl _ _).up (sc 6 (by decide))).up (sc 7 (by decide))
  have e26 : v2 (w 6) = U := by rw [← hv2, up_ne _ _ (nw (by decide) (by decide) (by decide)), up_self]
  have e27 : v2 (w 7) = W := by rw [← hv2, up_self]
  refine z_aload_n F dX0_setRatio_22 rfl ?_
  refine z_aload_n F dX0_setRatio_23 rfl ?_
  refine z_getR F dX0_setRatio_24 gr_X0_31 (by assumption) (by assumption) ?_
  refine z_aload_n F dX0_setRatio_27 rfl ?_
  refine z_getR F dX0_setRatio_28 gr_X0_34 (by assumption) (by assumption) ?_
  refine z_cVv F (c_findCommon hJ hA hC2 i6 i7 (nw (by decide) (by decide) (by decide)) (by rw [e26]; omega) (by rw [e27]; omega)) dX0_setRatio_31 ml_X0_128 ok_X0_findCommon hA0 (by decide) rfl rfl rfl (Nat.le_of_ble_eq_true rfl) (by decide) (by decide) (fun S' hS' => ?_)
  obtain ⟨V3, v3, rfl, hC3, hN3, g3, hE3⟩ := hS'
  rw [e26, e27] at g3
  have k3 : ∀ k, 5 ≤ k → k < 12 → v3 (w k) = v2 (w k) := fun k h5 h12 => hE3 _ (fun h => by
    rcases h with h | h | h | h | h <;> exact nw h12 (by decide) (by omega) h)
  have E3 : eV (aW w) val v3 := E2.trans (hE3.mono (fun o h => by
    rcases h with h | h | h | h | h <;> (rw [h]; exact sc _ (by decide))))
  have e36 : v3 (w 6) = U := by rw [k3 6 (by decide) (by decide), e26]
  refine z_aload_n F dX0_setRatio_34 rfl ?_
  refine z_aload_n F dX0_setRatio_35 rfl ?_
  refine z_getR F dX0_setRatio_36 gr_X0_31 (by assumption) (by assumption) ?_
  refine z_aload F dX0_setRatio_39 rfl ?_
  refine z_getR F dX0_setRatio_41 gr_X0_136 (by assumption) (by assumption) ?_
  refine z_cVv F (c_cut hJ hA hC3 i6 iu (hout 0 (by decide)).1 (hout 4 (by decide)).1 (hout 5 (by decide)).1 (by rw [e36]; omega)) dX0_setRatio_44 ml_X0_141 ok_X0_cut hA0 (by decide) rfl rfl rfl (Nat.le_of_ble_eq_true rfl) (by decide) (by decide) (fun S' hS' => ?_)
  obtain ⟨V4, v4, rfl, hC4, hN4, g4, hE4⟩ := hS'
  rw [e36, g3] at g4
  have k4 : ∀ k, k < 12 → k ≠ 0 → k ≠ 5 → v4 (w k) = v3 (w k) := fun k h12 h0 h5 => hE4 _ (fun h => by
    rcases h with h | h | h
    · exact nw h12 (by decide) h0 h
    · exact nw h12 (by decide) h5 h
    · exact (hout k h12).1 h.symm)
  have e47 : v4 (w 7) = W := by rw [k4 7 (by decide) (by decide) (by decide), k3 7 (by decide) (by decide), e27]
  refine z_aload_n F dX0_setRatio_47 rfl ?_
  refine z_aload_n F dX0_setRatio_48 rfl ?_
  refine z_getR F dX0_setRatio_49 gr_X0_34 (by assumption) (by assumption) ?_
  refine z_aload F dX0_setRatio_52 rfl ?_
  refine z_getR F dX0_setRatio_54 gr_X0_144 (by assumption) (by assumption) ?_
  refine z_cVv F (c_cut hJ hA hC4 i7 iv (hout 0 (by decide)).2 (hout 4 (by decide)).2 (hout 5 (by decide)).2 (by rw [e47]; omega)) dX0_setRatio_57 ml_X0_141 ok_X0_cut hA0 (by decide) rfl rfl rfl (Nat.le_of_ble_eq_true rfl) (by decide) (by decide) (fun S' hS' => ?_)
  obtain ⟨V5, v5, rfl, hC5, hN5, g5, hE5⟩ := hS'
  rw [e47, k4 4 (by decide) (by decide) (by decide), g3] at g5
  have e5u : v5 (uo q) = U / Nat.gcd U W := by
    rw [hE5 (uo q) (fun h => by
      rcases h with h | h | h
      · exact (hout 0 (by decide)).1 h
      · exact (hout 5 (by decide)).1 h
      · exact nuv h), g4]
  have E5 : eV (fun o => o = uo q ∨ o = vo q ∨ aW w o) val v5 := ((E3.mono (fun o h => Or.inr (Or.inr h))).trans (hE4.mono (fun o h => by
    rcases h with h | h | h
    · exact Or.inr (Or.inr (h ▸ sc 0 (by decide)))
    · exact Or.inr (Or.inr (h ▸ sc 5 (by decide)))
    · exact Or.inl h))).trans (hE5.mono (fun o h => by
    rcases h with h | h | h
    · exact Or.inr (Or.inr (h ▸ sc 0 (by decide)))
    · exact Or.inr (Or.inr (h ▸ sc 5 (by decide)))
    · exact Or.inr (Or.inl h)))
  have hN15 : eN Z V V5 := (((hN1.trans hN2).trans hN3).trans hN4).trans hN5
  have hF5 := hC.w hC5 hN15
  generalize hQ : zQ Γ κ (pV (tP Z V val bel uo vo w q (decide (U ≠ 0) && (decide (xu < 0) != decide (xv < 0)), U / Nat.gcd U W, W / Nat.gcd U W))) 0 0 = Q
  have fin : ∀ (x : Int32) (t : Bool), x = zb t → t = (decide (U ≠ 0) && (decide (xu < 0) != decide (xv < 0))) → zX Γ κ (Z, V5) 0 0 Q 98 [some (.ref A), some (.long xu), none, some (.long xv), none, some (.ref q)] [.int x, .ref q] := by
    intro x t hx ht
    obtain ⟨hC6, hF6⟩ := hF5.sgn (q := q) t hx
    have hx01 : x = 0 ∨ x = 1 := by rw [hx]; cases t; exact Or.inl rfl; exact Or.inr rfl
    subst hQ
    refine z_putI F dX0_setRatio_98 pi_X0_147 (zf_3_2 hx01) (by assumption) ?_
    exact z_vret F dX0_setRatio_101 rfl ⟨_, v5, _, rfl, hC6, hN15.F.trans hF6, by simp only [fr]; rw [up_self, e5u, g5, ht], E5, fun q' hq' => up_ne _ _ hq'⟩
  have cu0 : ∀ x : Int64, lg_cmp x (lN 0) = 0 ↔ x.toInt.natAbs = 0 := fun x => by rw [lg_cmp_eq, i64_0]
  have cul : ∀ x : Int64, 0 ≤ lg_cmp x (lN 0) ↔ ¬ x < 0 := fun x => by
    rw [lg_cmp_ge, Int64.not_lt]
    exact Iff.rfl
  refine z_aload F dX0_setRatio_60 rfl ?_
  refine z_lload_n F dX0_setRatio_62 rfl ?_
  refine z_lconst (v := lN 0) F dX0_setRatio_63 (by decide) ?_
  refine z_lcmp F dX0_setRatio_64 ?_
  refine z_if_eq (tgt := 97) F dX0_setRatio_65 (by decide) (fun c => ?_) (fun c => ?_)
  · have h := (cu0 xu).mp c
    rw [hU] at h
    refine z_iconst (v := nI 0) F dX0_setRatio_97 (by decide) ?_
    exact fin _ false rfl (by simp [h])
  · have h : ¬ U = 0 := by rw [← hU]; exact mt (cu0 xu).mpr c
    refine z_lload_n F dX0_setRatio_68 rfl ?_
    refine z_lconst (v := lN 0) F dX0_setRatio_69 (by decide) ?_
    refine z_lcmp F dX0_setRatio_70 ?_
    refine z_if_ge (tgt := 78) F dX0_setRatio_71 (by decide) (fun c2 => ?_) (fun c2 => ?_)
    · have h2 := (cul xu).mp c2
      refine z_iconst (v := nI 0) F dX0_setRatio_78 (by decide) ?_
      refine z_lload_n F dX0_setRatio_79 rfl ?_
      refine z_lconst (v := lN 0) F dX0_setRatio_80 (by decide) ?_
      refine z_lcmp F dX0_setRatio_81 ?_
      refine z_if_ge (tgt := 89) F dX0_setRatio_82 (by decide) (fun c3 => ?_) (fun c3 => ?_)
      · have h3 := (cul xv).mp c3
        refine z_iconst (v := nI 0) F dX0_setRatio_89 (by decide) ?_
        refine z_icmp_eq (tgt := 97) F dX0_setRatio_90 (by decide) (fun c4 => ?_) (fun c4 => ?_)
        · refine z_iconst (v := nI 0) F dX0_setRatio_97 (by decide) ?_
          exact fin _ false rfl (by simp [h2, h3])
        · exact absurd rfl c4
      · have h3 : xv < 0 := Decidable.byContradiction (fun z => c3 ((cul xv).mpr z))
        refine z_iconst (v := nI 1) F dX0_setRatio_85 (by decide) ?_
        refine z_goto (tgt := 90) F dX0_setRatio_86 (by decide) ?_
        refine z_icmp_eq (tgt := 97) F dX0_setRatio_90 (by decide) (fun c4 => ?_) (fun c4 => ?_)
        · exact absurd c4 (by decide)
        · refine z_iconst (v := nI 1) F dX0_setRatio_93 (by decide) ?_
          refine z_goto (tgt := 98) F dX0_setRatio_94 (by decide) ?_
          exact fin _ true rfl (by simp [h, h2, h3])
    · have h2 : xu < 0 := Decidable.byContradiction (fun z => c2 ((cul xu).mpr z))
      refine z_iconst (v := nI 1) F dX0_setRatio_74 (by decide) ?_
      refine z_goto (tgt := 79) F dX0_setRatio_75 (by decide) ?_
      refine z_lload_n F dX0_setRatio_79 rfl ?_
      refine z_lconst (v := lN 0) F dX0_setRatio_80 (by decide) ?_
      refine z_lcmp F dX0_setRatio_81 ?_
      refine z_if_ge (tgt := 89) F dX0_setRatio_82 (by decide) (fun c3 => ?_) (fun c3 => ?_)
      · have h3 := (cul xv).mp c3
        refine z_iconst (v := nI 0) F dX0_setRatio_89 (by decide) ?_
        refine z_icmp_eq (tgt := 97) F dX0_setRatio_90 (by decide) (fun c4 => ?_) (fun c4 => ?_)
        · exact absurd c4 (by decide)
        · refine z_iconst (v := nI 1) F dX0_setRatio_93 (by decide) ?_
          refine z_goto (tgt := 98) F dX0_setRatio_94 (by decide) ?_
          exact fin _ true rfl (by simp [h, h2, h3])
      · have h3 : xv < 0 := Decidable.byContradiction (fun z => c3 ((cul xv).mpr z))
        refine z_iconst (v := nI 1) F dX0_setRatio_85 (by decide) ?_
        refine z_goto (tgt := 90) F dX0_setRatio_86 (by decide) ?_
        refine z_icmp_eq (tgt := 97) F dX0_setRatio_90 (by decide) (fun c4 => ?_) (fun c4 => ?_)
        · refine z_iconst (v := nI 0) F dX0_setRatio_97 (by decide) ?_
          exact fin _ false rfl (by simp [h2, h3])
        · exact absurd rfl c4
end RATIO
/-! ===== all Fractions told at once: T; Wholes that stand alone: X ===== -/
/-- a Whole that is no Fraction's part and not the Arithmetic's -/
def xW (Z : Hz) (uo vo w : Nat → Nat) (o : Nat) : Prop := iW Z o ∧ ¬ aW w o ∧ ∀ q, zIn Z q 3 → o ≠ uo q ∧ o ≠ vo q
def KS (Z : Hz) (uo vo w : Nat → Nat) (V : Hv) (T : Nat → Fr) (X : Nat → Nat) : Prop := ∃ (val : Nat → Nat) (bel : Nat → Bool), CF Z V val bel ∧ (∀ q, zIn Z q 3 → fr val bel uo vo q = T q ∧ fok (T q)) ∧ ∀ o, xW Z uo vo w o → val o = X o
/-- what a method leaves, told -/
def kP (Z : Hz) (uo vo w : Nat → Nat) (V : Hv) (T : Nat → Fr) (X : Nat → Nat) : Hs → Prop := fun S' => ∃ V', S' = (Z, V') ∧ KS Z uo vo w V' T X ∧ eF Z V V'
section KST
variable {Γ : Gm} {Z : Hz} {V : Hv} {T : Nat → Fr} {X : Nat → Nat} {uo vo w : Nat → Nat} {A a b q : Nat}
theorem tP.k {val : Nat → Nat} {bel : Nat → Bool} {x : Fr} {S' : Hs} (hS : fS Z uo vo w) (hq : zIn Z q 3) (hT : ∀ q, zIn Z q 3 → fr val bel uo vo q = T q ∧ fok (T q)) (hX : ∀ o, xW Z uo vo w o → val o = X o) (hx : fok x) (h : tP Z V val bel uo vo w q x S') : kP Z uo vo w V (va_up T q x) X S' := by
  obtain ⟨V', val', bel', rfl, hC', hF', hfr, hE, hB⟩ := h
  refine ⟨V', rfl, ⟨val', bel', hC', fun q' hq' => ?_, fun o ho => ?_⟩, hF'⟩
  · by_cases e : q' = q
    · subst e
      rw [up_self]
      exact ⟨hfr, hx⟩
    · rw [up_ne _ _ e]
      obtain ⟨t1, t2⟩ := hT q' hq'
      refine ⟨?_, t2⟩
      rw [← t1]
      obtain ⟨hne1, hne2, hne3⟩ := hS.2 q' q hq' hq
      have hne4 := (hS.2 q q' hq hq').2.2
      have ou := hS.out hq'
      simp only [fr]
      rw [hB q' e, hE (uo q') (fun h => by
        rcases h with h | h | h
        · exact e (hne1 h)
        · exact hne3 h
        · exact ou.1 h), hE (vo q') (fun h => by
        rcases h with h | h | h
        · exact hne4 h.symm
        · exact e (hne2 h)
        · exact ou.2 h)]
  · rw [hE o (fun h => by
      rcases h with h | h | h
      · exact (ho.2.2 q hq).1 h
      · exact (ho.2.2 q hq).2 h
      · exact ho.2.1 h)]
    exact hX o ho
theorem up_id {α : Type} (f : Nat → α) (k : Nat) : va_up f k (f k) = f := by
  funext j
  by_cases h : j = k
  · subst h; simp [va_up]
  · simp [va_up, h]
theorem flow_sign {x : Fr} (h : fok x) : (x.1 && decide (x.2.1 ≠ 0)) = x.1 := by
  obtain ⟨s, u, v⟩ := x
  by_cases hu : u = 0
  · have := h.1.2.2 hu
    simp only at this
    simp [hu, this]
  · simp [hu]
theorem K_isZero (hK : KS Z uo vo w V T X) (hS : fS Z uo vo w) (hq : zIn Z q 3) : zCt Γ mX3_isZero 1 20 0 0 [.ref q] (Z, V) (pZ (q0 Z V (decide ((T q).2.1 = 0)))) := by
  obtain ⟨val, bel, hC, hT, hX⟩ := hK
  rw [← (hT q hq).1]
  exact c_fIsZero hC hS hq
theorem K_size (hK : KS Z uo vo w V T X) (hS : fS Z uo vo w) (hq : zIn Z q 3) : zCt Γ mX3_size 2 41 0 0 [.ref q] (Z, V) (pI (q0 Z V (nI (bl (T q).2.1 + bl (T q).2.2)))) := by
  obtain ⟨val, bel, hC, hT, hX⟩ := hK
  rw [← (hT q hq).1]
  exact c_fSize hC hS hq
theorem K_setZero (hK : KS Z uo vo w V T X) (hJ : wInj Z) (hS : fS Z uo vo w) (hq : zIn Z q 3) : zCt Γ mX3_setZero 1 23 0 0 [.ref q] (Z, V) (pV (kP Z uo vo w V (va_up T q (false, 0, 1)) X)) := by
  obtain ⟨val, bel, hC, hT, hX⟩ := hK
  exact (c_setZero hC hJ hS hq).mono (fun r S' h => ⟨h.1, tP.k hS hq hT hX ⟨⟨by decide, by decide, fun _ => rfl⟩, by decide, by decide⟩ h.2⟩)
theorem K_copy (hK : KS Z uo vo w V T X) (hJ : wInj Z) (hS : fS Z uo vo w) (hq : zIn Z q 3) (ha : zIn Z a 3) : zCt Γ mX3_copy 3 82 0 0 [.ref q, .ref a] (Z, V) (pV (kP Z uo vo w V (va_up T q (T a)) X)) := by
  obtain ⟨val, bel, hC, hT, hX⟩ := hK
  obtain ⟨e, ok⟩ := hT a ha
  have hs := flow_sign ok
  refine (c_fCopy hC hJ hS hq ha).mono (fun r S' h => ⟨h.1, ?_⟩)
  refine tP.k hS hq hT hX ok ?_
  rw [← e] at hs ⊢
  rw [hs] at h
  exact h.2
theorem K_setRatio {xu xv : Int64} (hK : KS Z uo vo w V T X) (hJ : wInj Z) (hA : aR Z A w) (hS : fS Z uo vo w) (hq : zIn Z q 3) (hv : xv.toInt.natAbs ≠ 0) : zCt Γ mX0_setRatio 4 115 0 0 [.ref A, .long xu, .long xv, .ref q] (Z, V) (pV (kP Z uo vo w V (va_up T q (fratio xu xv)) X)) := by
  obtain ⟨val, bel, hC, hT, hX⟩ := hK
  exact (c_setRatio hJ hA hC hS hq hv).mono (fun r S' h => ⟨h.1, tP.k hS hq hT hX (fratio_ok xu xv hv) h.2⟩)
theorem norm_ok2 (s : Bool) (u : Nat) {v : Nat} (hv : 0 < v) (h : wideB (norm s u v) = true) : fok (norm s u v) := ⟨flow_norm s u hv, wideB_iff.mp h⟩
theorem fmul_ok {x y : Fr} {d : Bool} (hx : fok x) (hy : fok y) (hd : d = true → y.2.1 ≠ 0) (h : wideB (fmul x y d) = true) : fok (fmul x y d) := by
  refine norm_ok2 _ _ ?_ h
  cases d with
  | true => exact Nat.mul_pos hx.1.1 (Nat.pos_of_ne_zero (hd rfl))
  | false => exact Nat.mul_pos hx.1.1 hy.1.1
theorem fadd_ok {x y : Fr} {d : Bool} (hx : fok x) (hy : fok y) (h : wideB (fadd x y d) = true) : fok (fadd x y d) := by
  have hp : 0 < x.2.2 * y.2.2 := Nat.mul_pos hx.1.1 hy.1.1
  revert h
  unfold fadd
  split
  · exact norm_ok2 _ _ hp
  · split
    · exact norm_ok2 _ _ hp
    · exact norm_ok2 _ _ hp
/-- a result kept where it is wide -/
def upW (T : Nat → Fr) (q : Nat) (x : Fr) : Nat → Fr := if wideB x = true then va_up T q x else T
theorem K_multiply {d : Bool} (hK : KS Z uo vo w V T X) (hJ : wInj Z) (hA : aR Z A w) (hS : fS Z uo vo w) (ha : zIn Z a 3) (hb : zIn Z b 3) (hq : zIn Z q 3) (hd : d = true → (T b).2.1 ≠ 0) : zCt Γ mX0_multiply 4 115 0 0 [.ref A, .ref a, .ref b, .int (zb d), .ref q] (Z, V) (pZ (fun r S' => r = wideB (fmul (T a) (T b) d) ∧ kP Z uo vo w V (upW T q (fmul (T a) (T b) d)) X S')) := by
  obtain ⟨val, bel, hC, hT, hX⟩ := hK
  obtain ⟨ea, oka⟩ := hT a ha
  obtain ⟨eb, okb⟩ := hT b hb
  refine (c_multiply (d := d) hJ hA hC hS ha hb hq (ea ▸ oka) (eb ▸ okb) (fun h => by have := hd h; rw [← eb] at this; exact this)).mono (fun r S' h => ?_)
  obtain ⟨r', e1, e2, e3⟩ := h
  rw [ea, eb] at e2 e3
  refine ⟨r', e1, e2, ?_⟩
  unfold upW
  by_cases hw : wideB (fmul (T a) (T b) d) = true
  · rw [if_pos hw] at e3 ⊢
    exact tP.k hS hq hT hX (fmul_ok oka okb hd hw) e3
  · rw [if_neg hw] at e3 ⊢
    have := tP.k hS hq hT hX ((hT q hq).1 ▸ (hT q hq).2) e3
    rwa [(hT q hq).1, up_id] at this
theorem K_add {d : Bool} (hK : KS Z uo vo w V T X) (hJ : wInj Z) (hA : aR Z A w) (hS : fS Z uo vo w) (ha : zIn Z a 3) (hb : zIn Z b 3) (hq : zIn Z q 3) : zCt Γ mX0_add 4 115 0 0 [.ref A, .ref a, .ref b, .int (zb d), .ref q] (Z, V) (pZ (fun r S' => r = wideB (fadd (T a) (T b) d) ∧ kP Z uo vo w V (upW T q (fadd (T a) (T b) d)) X S')) := by
  obtain ⟨val, bel, hC, hT, hX⟩ := hK
  obtain ⟨ea, oka⟩ := hT a ha
  obtain ⟨eb, okb⟩ := hT b hb
  refine (c_add (d := d) hJ hA hC hS ha hb hq (ea ▸ oka) (eb ▸ okb)).mono (fun r S' h => ?_)
  obtain ⟨r', e1, e2, e3⟩ := h
  rw [ea, eb] at e2 e3
  refine ⟨r', e1, e2, ?_⟩
  unfold upW
  by_cases hw : wideB (fadd (T a) (T b) d) = true
  · rw [if_pos hw] at e3 ⊢
    exact tP.k hS hq hT hX (fadd_ok oka okb hw) e3
  · rw [if_neg hw] at e3 ⊢
    have := tP.k hS hq hT hX ((hT q hq).1 ▸ (hT q hq).2) e3
    rwa [(hT q hq).1, up_id] at this
theorem K_order (hK : KS Z uo vo w V T X) (hJ : wInj Z) (hA : aR Z A w) (hS : fS Z uo vo w) (ha : zIn Z a 3) (hb : zIn Z b 3) : zCt Γ mX0_order 2 51 0 0 [.ref A, .ref a, .ref b] (Z, V) (pI (fun r S' => r = fcmp (T a) (T b) ∧ kP Z uo vo w V T X S')) := by
  obtain ⟨val, bel, hC, hT, hX⟩ := hK
  obtain ⟨ea, oka⟩ := hT a ha
  obtain ⟨eb, okb⟩ := hT b hb
  refine (c_order hJ hA hC hS ha hb (ea ▸ oka) (eb ▸ okb)).mono (fun r S' h => ?_)
  obtain ⟨r', e1, e2, V', val', rfl, hC', hN', hE'⟩ := h
  rw [ea, eb] at e2
  refine ⟨r', e1, e2, V', rfl, ⟨val', bel, hC.w hC' hN', fun q' hq' => ?_, fun o ho => ?_⟩, hN'.F⟩
  · obtain ⟨t1, t2⟩ := hT q' hq'
    refine ⟨?_, t2⟩
    rw [← t1]
    have ou := hS.out hq'
    simp only [fr]
    rw [hE' _ ou.1, hE' _ ou.2]
  · rw [hE' o ho.2.1]
    exact hX o ho
theorem K_negate (hK : KS Z uo vo w V T X) (hS : fS Z uo vo w) (hq : zIn Z q 3) : zCt Γ mX3_negate 1 20 0 0 [.ref q] (Z, V) (pV (kP Z uo vo w V (va_up T q (!(T q).1 && decide ((T q).2.1 ≠ 0), (T q).2.1, (T q).2.2)) X)) := by
  obtain ⟨val, bel, hC, hT, hX⟩ := hK
  obtain ⟨e, ok⟩ := hT q hq
  refine (c_negate hC hS hq).mono (fun r S' h => ⟨h.1, ?_⟩)
  rw [← e] at ok ⊢
  refine tP.k hS hq hT hX ⟨⟨ok.1.1, ok.1.2.1, fun z => ?_⟩, ok.2⟩ h.2
  simp only at z
  simp [z]
theorem K_setWhole (hK : KS Z uo vo w V T X) (hJ : wInj Z) (hS : fS Z uo vo w) (hq : zIn Z q 3) (ha : xW Z uo vo w a) (hw : X a < 4294967296 ^ 6) : zCt Γ mX3_setWhole 2 59 0 0 [.ref q, .ref a] (Z, V) (pV (kP Z uo vo w V (va_up T q (false, X a, 1)) X)) := by
  obtain ⟨val, bel, hC, hT, hX⟩ := hK
  rw [← hX a ha] at hw ⊢
  exact (c_setWhole hC hJ hS hq ha.1).mono (fun r S' h => ⟨h.1, tP.k hS hq hT hX ⟨⟨Nat.one_pos, Nat.gcd_one_right _, fun _ => rfl⟩, hw, show 1 < 4294967296 ^ 6 by decide⟩ h.2⟩)
end KST
