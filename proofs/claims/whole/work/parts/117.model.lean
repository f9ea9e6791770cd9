/-! ===== FractionRowsModel: solve, holds ===== -/
section MOD17
variable {Γ : Gm} {Z : Hz} {V V1 : Hv} {a : Nat → Nat} {L : Nat → Nat} {T T' : Nat → Fr} {L' : Nat → Nat} {f n : Nat} {M : Mx} {s : St}
theorem eE.ar {k : Nat} (h : eE a V V1) (hR : mR Z a) (hk : (3 ≤ k ∧ k ≤ 5) ∨ k = 10 ∨ k = 11) : vA V1 (a k) = vA V (a k) := h.2.1 _ (fun ⟨j, hj, e⟩ => by
  have := hR.2.2.2.2 k j (by omega) (by omega) (by omega) (by omega) e
  omega)
theorem gM.ofE (h : eE a V V1) : gM a V V1 := h.mono (fun ci k b z => ⟨z.1, z.2.2⟩) (fun b ⟨k, hk, e⟩ => ⟨k, by omega, by omega, e⟩)
theorem rMT.e (h : rMT a V n T L s) (hR : mR Z a) (hE : eE a V V1) (hL : mL a V1 T' L') (hT : tZ T T') : rMT a V1 n T' L' s := by
  have hc := h.2.2.1.1.2.2.1
  refine ⟨h.1, hL, h.2.2.1.of (fun k _ h1 h2 => hE.i h1 h2) (fun k hk => hE.ar hR (by omega)), h.2.2.2.agree h.1 (fun q hq => hT q (fun z => hq ?_)) hc⟩
  unfold scr at z ⊢
  omega
/-- nothing is SOLVED -/
theorem rMT.un (h : rMT a V n T L s) : rMT a (sI V 9 7 (a 0) (nI 0)) n T L (wV s none) := by
  obtain ⟨hn, hL, ⟨⟨i2, i3, i40, i4, i5⟩, hv, hx⟩, h1, h2, h3, h4⟩ := h
  refine ⟨hn, hL, ⟨⟨?_, ?_, i40, ?_, ?_⟩, ⟨vI_sI_self _ _ _ _ _, (fun v hv => nomatch hv)⟩, ?_⟩, h1, h2, (fun v hv => nomatch hv), h4⟩
  · rw [vI9 V (by decide)]; exact i2
  · rw [vI9 V (by decide)]; exact i3
  · rw [vI9 V (by decide)]; exact i4
  · rw [vI9 V (by decide)]; exact i5
  · exact hx.of (vI9 V (by decide)) rfl
/-- where nothing is SOLVED, what else is kept may change -/
theorem rMT.nv (h : rMT a V n T L (wV s none)) (hL : mL a V1 T' L') (hi : ∀ k, k < 8 → k ≠ 6 → vI V1 9 k (a 0) = vI V 9 k (a 0)) (hi2 : vI V1 9 20 (a 0) = vI V 9 20 (a 0)) (ha : vA V1 (a 10) = vA V (a 10)) (hT : tA T T') : rMT a V1 n T' L' (wV s none) := by
  obtain ⟨hn, -, ⟨⟨i2, i3, i40, i4, i5⟩, hv, hx⟩, h1, h2, h3, h4⟩ := h
  have i40' : tc s ≤ 40 := i40
  refine ⟨hn, hL, ⟨⟨?_, ?_, i40, ?_, ?_⟩, ⟨?_, (fun v hv => nomatch hv)⟩, hx.of hi2 ha⟩, fun i hi => ?_, fun p k hp hk => ?_, (fun v hv => nomatch hv), ?_⟩
  · rw [hi 2 (by decide) (by decide)]; exact i2
  · rw [hi 3 (by decide) (by decide)]; exact i3
  · rw [hi 4 (by decide) (by decide)]; exact i4
  · rw [hi 5 (by decide) (by decide)]; exact i5
  · rw [hi 7 (by decide) (by decide)]; exact hv.1
  · have hi' : i < tc s := hi
    rw [hT i (by omega)]; exact h1 i hi
  · rw [hT _ (by omega)]; exact h2 p k hp hk
  · rw [hT 111 (Or.inr rfl)]; exact h4
theorem nI_ne3 {c : Nat} (h : c < 1000) : ¬ nI c = (-3 : Int32) := fun e => by
  have := congrArg Int32.toInt e
  rw [nI_toInt (by omega)] at this
  have e6 : (-3 : Int32).toInt = -3 := by decide
  omega
set_option maxRecDepth 100000 in
set_option maxHeartbeats 2000000 in
theorem m_solve (way : Int32) (hR : mR Z a) (hM : rMT a V n T L s) (hO : sOk n s) : zCt Γ mX10_solve 7 175 0 0 [.ref (a 0), .int way] (Z, V) (pI (oX Z a n V 0 (opSolve n s way))) := by
  refine zCt.of [some (.ref (a 0)), some (.int way), none, none] pn_X10_solve rfl (Nat.le_of_ble_eq_true rfl) rfl (fun κ F => ?_)
  obtain ⟨b0, b1, b2, b3, b4, b5, b6, b7, b8, b9, b10, b11⟩ := hR.1
  refine z_aload_n F dX10_solve_0 rfl ?_
  refine z_iconst (v := nI 0) F dX10_solve_1 (by decide) ?_
  refine z_putI F dX10_solve_2 pi_X10_52 (zf_9_6 _) (by assumption) ?_
  obtain ⟨V1, e1, hg, ht, hM⟩ := hM.th0
  refine z_V (Z := Z) e1 ?_
  have hn := hM.1
  have h2 := hM.2.2.1.1.1
  unfold opSolve
  refine z_iload_n F dX10_solve_5 rfl ?_
  refine z_iconst (v := nI 0) F dX10_solve_6 (by decide) ?_
  refine z_iconst (v := nI 1) F dX10_solve_7 (by decide) ?_
  refine z_cSz F (m_isIn way (nI 0) (nI 1)) dX10_solve_8 ml_X10_119 ok_X10_isIn rfl rfl rfl (Nat.le_of_ble_eq_true rfl) (by decide) (by decide) (fun r S' hr => ?_)
  obtain ⟨rfl, rfl⟩ := hr
  rw [inI_le way (by decide)]
  refine z_if_ne (tgt := 16) F dX10_solve_11 (by decide) (fun c => ?_) (fun c => ?_)
  · have h := zb_t c
    obtain ⟨q, hq, rfl, eq⟩ := inI_t h (by decide)
    have hpart : nI q = 0 ∨ nI q = 1 := by
      match q, hq with
      | 0, _ => exact Or.inl rfl
      | 1, _ => exact Or.inr rfl
    rw [if_pos hpart, eq]
    obtain ⟨V2, hV2⟩ : ∃ V2, V2 = sI V1 9 7 (a 0) (nI 0) := ⟨_, rfl⟩
    have hM2 : rMT a V2 n T L (wV s none) := by rw [hV2]; exact hM.un
    have hg2 : gM a V V2 := by rw [hV2]; exact hg.trans (gM.setI V1 _ _)
    have ht2 : vI V2 9 6 (a 0) = 0 := by rw [hV2, vI9 V1 (by decide)]; exact ht
    have e22 : vI V2 9 2 (a 0) = nI n := hM2.2.2.1.1.1
    refine z_aload_n F dX10_solve_16 rfl ?_
    refine z_iconst (v := nI 0) F dX10_solve_17 (by decide) ?_
    refine z_putI F dX10_solve_18 pi_X10_180 (zf_9_7 (Or.inl rfl)) (by assumption) ?_
    refine z_V (Z := Z) (show _ = V2 from hV2.symm) ?_
    generalize hQ : zQ Γ κ (pI (oX Z a n V 0 (match (elim q n (n + 1) (tm s)).bind (solS n) with
      | none => grewF (wV s none)
      | some v => (wV s (some v), nI v.2.1)))) 0 0 = Q
    refine z_aload_n F dX10_solve_21 rfl ?_
    refine z_iload_n F dX10_solve_22 rfl ?_
    refine z_aload_n F dX10_solve_23 rfl ?_
    refine z_getI F dX10_solve_24 gi_X10_44 (by assumption) ?_
    refine z_ti e22 ?_
    refine z_cVi F (m_eliminated (way := q) (ms := n) (M := tm s) hR hn e22 hM2.2.1 hM.2.2.2.2.1 hO.2.1 (by omega) (Nat.le_refl n) (Nat.le_succ n)) dX10_solve_27 ml_X10_183 ok_X10_eliminated b0 (by decide) rfl rfl rfl (Nat.le_of_ble_eq_true rfl) (by decide) (by decide) (fun r S' hr => ?_)
    obtain ⟨VE, TE, LE, rfl, hE, hLE, hTE, hr⟩ := hr
    have hME := hM2.e hR hE hLE hTE
    have hgE := hg2.trans (gM.ofE hE)
    have htE : vI VE 9 6 (a 0) = 0 := by rw [hE.i (by decide) (by decide)]; exact ht2
    rcases hr with ⟨hr1, rfl⟩ | ⟨el, hr1, rfl, hS⟩
    · rw [hr1] at hQ
      subst hQ
      refine z_istore_n_2 F dX10_solve_30 rfl ?_
      refine z_iload_n F dX10_solve_31 rfl ?_
      refine z_bipush (v := (-3)) F dX10_solve_32 (by decide) ?_
      refine z_icmp_ne (tgt := 42) F dX10_solve_34 (by decide) (fun c2 => ?_) (fun c2 => ?_)
      · exact absurd rfl c2
      · refine z_aload_n F dX10_solve_37 rfl ?_
        refine z_cVi F (m_grew hR hME htE) dX10_solve_38 ml_X10_153 ok_X10_grew b0 (by decide) rfl rfl rfl (Nat.le_of_ble_eq_true rfl) (by decide) (by decide) (fun r S' hr => ?_)
        exact z_iret F dX10_solve_41 rfl (oX.after hgE hr)
    · rw [hr1] at hQ
      obtain ⟨M, ro, t, cc, sz, od⟩ := el
      obtain ⟨⟨hC, ho⟩, -, hnew, -, htn, -, hpv, -⟩ := hS
      simp only at hC ho hnew htn hpv
      have hsol : ((some (M, ro, t, cc, sz, od) : Option El).bind (solS n)) = if hasA M n (n - t) t = true then (fuT M cc n t (fun _ => f0)).map (fun U => (true, t, cc, ro, sz, U)) else some (false, t, cc, ro, sz, fun _ => f0) := rfl
      rw [hsol] at hQ
      have n3 : ∀ i j : Nat, 3 ≤ i → i ≤ 5 → 6 ≤ j → j ≤ 8 → a j ≠ a i := fun i j h1 h2 h3 h4 => hR.ne (by omega) (by omega) (by omega) (by omega) (by omega)
      -- what is SOLVED is written down
      have cp : ∀ (V5 : Hv) (T5 : Nat → Fr) (L5 : Nat → Nat) (ha : Bool) (U : Nat → Fr) (l3 : Option Value), rMT a V5 n T5 L5 (wV s none) → gM a V V5 → vI V5 9 6 (a 0) = 0 → vI V5 9 8 (a 0) = zb (!ha) → (∀ k, 6 ≤ k → k ≤ 8 → vA V5 (a k) = vA VE (a k)) → (ha = true → ∀ j, j < n → T5 (100 + j) = U j) → Q = zQ Γ κ (pI (oX Z a n V 0 (wV s (some (ha, t, cc, ro, sz, U)), nI t))) 0 0 → zX Γ κ (Z, V5) 0 0 Q 118 [some (.ref (a 0)), some (.int (nI q)), some (.int (nI t)), l3] [] := by
        intro V5 T5 L5 ha U l3 hM5 hg5 ht5 h85 hk5 hU hQ5
        rw [hQ5]
        clear hQ hQ5
        have lp : ∀ (d i : Nat) (V6 : Hv), i + d = t → rMT a V6 n T5 L5 (wV s none) → gM a V V6 → vI V6 9 6 (a 0) = 0 → vI V6 9 8 (a 0) = zb (!ha) → (∀ k, 6 ≤ k → k ≤ 8 → vA V6 (a k) = vA VE (a k)) → (∀ p, p < i → vA V6 (a 3) p = nI (cc p) ∧ vA V6 (a 4) p = nI (ro p) ∧ vA V6 (a 5) p = nI (sz p)) → zX Γ κ (Z, V6) 0 0 (zQ Γ κ (pI (oX Z a n V 0 (wV s (some (ha, t, cc, ro, sz, U)), nI t))) 0 0) 120 [some (.ref (a 0)), some (.int (nI q)), some (.int (nI t)), some (.int (nI i))] [] := by
          intro d
          induction d with
          | zero =>
            intro i V6 hi hM6 hg6 ht6 h86 hk6 hp6
            refine z_iload_n F dX10_solve_120 rfl ?_
            refine z_iload_n F dX10_solve_121 rfl ?_
            refine z_icmp_ge (tgt := 167) F dX10_solve_122 (by decide) (fun c3 => ?_) (fun c3 => ?_)
            · obtain ⟨V7, hV7⟩ : ∃ V7, V7 = sI (sI V6 9 9 (a 0) (nI t)) 9 7 (a 0) (nI 1) := ⟨_, rfl⟩
              have f7 : ∀ k, k ≠ 9 → k ≠ 7 → vI V7 9 k (a 0) = vI V6 9 k (a 0) := fun k h1 h2 => by rw [hV7, vI9 _ h2, vI9 _ h1]
              have v9 : vI V7 9 9 (a 0) = nI t := by rw [hV7, vI9 _ (by decide), vI_sI_self]
              have hM7 : rMT a V7 n T5 L5 (wV s (some (ha, t, cc, ro, sz, U))) := by
                obtain ⟨hn, hL, ⟨⟨i2, i3, i40, i4, i5⟩, hv, hx⟩, h1, h2, h3, h4⟩ := hM6
                refine ⟨hn, by rw [hV7]; exact hL, ⟨⟨?_, ?_, i40, ?_, ?_⟩, ⟨?_, fun v hv => ?_⟩, ?_⟩, h1, h2, fun v hv hv1 => ?_, h4⟩
                · rw [f7 _ (by decide) (by decide)]; exact i2
                · rw [f7 _ (by decide) (by decide)]; exact i3
                · rw [f7 _ (by decide) (by decide)]; exact i4
                · rw [f7 _ (by decide) (by decide)]; exact i5
                · rw [hV7, vI_sI_self]; rfl
                · cases hv
                  refine ⟨?_, v9, htn, fun p hp => ?_⟩
                  · rw [f7 _ (by decide) (by decide)]; exact h86
                  · rw [hV7]
                    exact hp6 p (by simp only at hp; omega)
                · exact hx.of (f7 _ (by decide) (by decide)) (by rw [hV7]; rfl)
                · cases hv
                  exact hU hv1
              have ht7 : vI V7 9 6 (a 0) = 0 := by rw [f7 _ (by decide) (by decide)]; exact ht6
              have hg7 : gM a V V7 := by rw [hV7]; exact (hg6.trans (gM.setI V6 _ _)).trans (gM.setI _ _ _)
              refine z_aload_n F dX10_solve_167 rfl ?_
              refine z_iload_n F dX10_solve_168 rfl ?_
              refine z_putI F dX10_solve_169 pi_X10_192 (zf_9_9 _) (by assumption) ?_
              refine z_aload_n F dX10_solve_172 rfl ?_
              refine z_iconst (v := nI 1) F dX10_solve_173 (by decide) ?_
              refine z_putI F dX10_solve_174 pi_X10_180 (zf_9_7 (Or.inr rfl)) (by assumption) ?_
              refine z_V (Z := Z) (show _ = V7 from hV7.symm) ?_
              refine z_aload_n F dX10_solve_177 rfl ?_
              refine z_getI F dX10_solve_178 gi_X10_192 (by assumption) ?_
              refine z_ti v9 ?_
              exact z_iret F dX10_solve_181 rfl ⟨rfl, V7, T5, L5, rfl, hg7, ht7, hM7⟩
            · exact absurd (nI_le (by omega) (by omega)) c3
          | succ d ih =>
            intro i V6 hi hM6 hg6 ht6 h86 hk6 hp6
            obtain ⟨r3, l3⟩ := hR.2.2.1 3 (by decide) (by decide)
            obtain ⟨r4, l4⟩ := hR.2.2.1 4 (by decide) (by decide)
            obtain ⟨r5, l5⟩ := hR.2.2.1 5 (by decide) (by decide)
            obtain ⟨r6, l6⟩ := hR.2.2.1 6 (by decide) (by decide)
            obtain ⟨r7, l7⟩ := hR.2.2.1 7 (by decide) (by decide)
            obtain ⟨r8, l8⟩ := hR.2.2.1 8 (by decide) (by decide)
            have cli : (nI i).toNatClampNeg = i := nI_clamp (by omega)
            have i3 := ix5 (i := i) (by omega) l3
            have i4 := ix5 (i := i) (by omega) l4
            have i5 := ix5 (i := i) (by omega) l5
            have i6 := ix5 (i := i) (by omega) l6
            have i7 := ix5 (i := i) (by omega) l7
            have i8 := ix5 (i := i) (by omega) l8
            obtain ⟨w6, w7, w8⟩ := hnew i (by omega)
            obtain ⟨VA, hVA⟩ : ∃ VA, VA = sA V6 (a 3) (upd (vA V6 (a 3)) (nI i).toNatClampNeg (nI (cc i))) := ⟨_, rfl⟩
            obtain ⟨VB, hVB⟩ : ∃ VB, VB = sA VA (a 4) (upd (vA VA (a 4)) (nI i).toNatClampNeg (nI (ro i))) := ⟨_, rfl⟩
            obtain ⟨VC, hVC⟩ : ∃ VC, VC = sA VB (a 5) (upd (vA VB (a 5)) (nI i).toNatClampNeg (nI (sz i))) := ⟨_, rfl⟩
            have n34 : a 3 ≠ a 4 := hR.ne (by decide) (by decide) (by decide) (by decide) (by decide)
            have n35 : a 3 ≠ a 5 := hR.ne (by decide) (by decide) (by decide) (by decide) (by decide)
            have n45 : a 4 ≠ a 5 := hR.ne (by decide) (by decide) (by decide) (by decide) (by decide)
            have v6 : vA V6 (a 6) (nI i).toNatClampNeg = nI (cc i) := by rw [cli, hk6 6 (by decide) (by decide)]; exact w6
            have v7 : vA VA (a 7) (nI i).toNatClampNeg = nI (ro i) := by rw [cli, hVA, vA_sA_ne _ _ (n3 3 7 (by decide) (by decide) (by decide) (by decide)), hk6 7 (by decide) (by decide)]; exact w7
            have v8 : vA VB (a 8) (nI i).toNatClampNeg = nI (sz i) := by rw [cli, hVB, vA_sA_ne _ _ (n3 4 8 (by decide) (by decide) (by decide) (by decide)), hVA, vA_sA_ne _ _ (n3 3 8 (by decide) (by decide) (by decide) (by decide)), hk6 8 (by decide) (by decide)]; exact w8
            have fC : ∀ k, vI VC 9 k (a 0) = vI V6 9 k (a 0) := fun k => by rw [hVC, hVB, hVA]; rfl
            have aC : ∀ k, 6 ≤ k → k ≤ 11 → vA VC (a k) = vA V6 (a k) := fun k h1 h2 => by
              rw [hVC, vA_sA_ne _ _ (hR.ne (by omega) h2 (by decide) (by decide) (by omega)), hVB, vA_sA_ne _ _ (hR.ne (by omega) h2 (by decide) (by decide) (by omega)), hVA, vA_sA_ne _ _ (hR.ne (by omega) h2 (by decide) (by decide) (by omega))]
            have hLC : mL a VC T5 L5 := by
              rw [hVC, hVB, hVA]
              exact ((hM6.2.1.keep hR (by decide) (by decide)).keep hR (by decide) (by decide)).keep hR (by decide) (by decide)
            have hMC : rMT a VC n T5 L5 (wV s none) := hM6.nv hLC (fun k _ _ => fC k) (fC 20) (aC 10 (by decide) (by decide)) (tA.refl T5)
            have hgC : gM a V VC := by
              rw [hVC, hVB, hVA]
              exact ((hg6.trans (gM.setA V6 (k := 3) _ (by decide) (by decide))).trans (gM.setA _ (k := 4) _ (by decide) (by decide))).trans (gM.setA _ (k := 5) _ (by decide) (by decide))
            refine z_iload_n F dX10_solve_120 rfl ?_
            refine z_iload_n F dX10_solve_121 rfl ?_
            refine z_icmp_ge (tgt := 167) F dX10_solve_122 (by decide) (fun c3 => ?_) (fun c3 => ?_)
            · exact absurd ((nI_leI (by omega) (by omega)).mp c3) (by omega)
            · refine z_aload_n F dX10_solve_125 rfl ?_
              refine z_getR F dX10_solve_126 gr_X10_17 (by assumption) (by assumption) ?_
              refine z_iload_n F dX10_solve_129 rfl ?_
              refine z_aload_n F dX10_solve_130 rfl ?_
              refine z_getR F dX10_solve_131 gr_X10_26 (by assumption) (by assumption) ?_
              refine z_iload_n F dX10_solve_134 rfl ?_
              refine z_iald F dX10_solve_135 (by assumption) (by assumption) ?_
              refine z_ti v6 ?_
              refine z_iast F dX10_solve_136 (by assumption) (by assumption) ?_
              refine z_V (Z := Z) (show _ = VA from hVA.symm) ?_
              refine z_aload_n F dX10_solve_137 rfl ?_
              refine z_getR F dX10_solve_138 gr_X10_20 (by assumption) (by assumption) ?_
              refine z_iload_n F dX10_solve_141 rfl ?_
              refine z_aload_n F dX10_solve_142 rfl ?_
              refine z_getR F dX10_solve_143 gr_X10_29 (by assumption) (by assumption) ?_
              refine z_iload_n F dX10_solve_146 rfl ?_
              refine z_iald F dX10_solve_147 (by assumption) (by assumption) ?_
              refine z_ti v7 ?_
              refine z_iast F dX10_solve_148 (by assumption) (by assumption) ?_
              refine z_V (Z := Z) (show _ = VB from hVB.symm) ?_
              refine z_aload_n F dX10_solve_149 rfl ?_
              refine z_getR F dX10_solve_150 gr_X10_23 (by assumption) (by assumption) ?_
              refine z_iload_n F dX10_solve_153 rfl ?_
              refine z_aload_n F dX10_solve_154 rfl ?_
              refine z_getR F dX10_solve_155 gr_X10_32 (by assumption) (by assumption) ?_
              refine z_iload_n F dX10_solve_158 rfl ?_
              refine z_iald F dX10_solve_159 (by assumption) (by assumption) ?_
              refine z_ti v8 ?_
              refine z_iast F dX10_solve_160 (by assumption) (by assumption) ?_
              refine z_V (Z := Z) (show _ = VC from hVC.symm) ?_
              refine z_iinc_3 F dX10_solve_161 rfl ?_
              refine z_goto (tgt := 120) F dX10_solve_164 (by decide) ?_
              rw [show nI i + Int32.ofInt 1 = nI (i + 1) from nI_1 i]
              refine ih (i + 1) VC (by omega) hMC hgC (by rw [fC]; exact ht6) (by rw [fC]; exact h86) (fun k h1 h2 => by rw [aC k h1 (by omega)]; exact hk6 k h1 h2) (fun p hp => ?_)
              have x3 : vA VC (a 3) = upd (vA V6 (a 3)) i (nI (cc i)) := by rw [hVC, vA_sA_ne _ _ n35, hVB, vA_sA_ne _ _ n34, hVA, vA_sA_self, cli]
              have x4 : vA VC (a 4) = upd (vA V6 (a 4)) i (nI (ro i)) := by rw [hVC, vA_sA_ne _ _ n45, hVB, vA_sA_self, hVA, vA_sA_ne _ _ (Ne.symm n34), cli]
              have x5 : vA VC (a 5) = upd (vA V6 (a 5)) i (nI (sz i)) := by rw [hVC, vA_sA_self, hVB, vA_sA_ne _ _ (Ne.symm n45), hVA, vA_sA_ne _ _ (Ne.symm n35), cli]
              rw [x3, x4, x5]
              by_cases e : p = i
              · rw [e, pk_us, pk_us, pk_us]; exact ⟨rfl, rfl, rfl⟩
              · rw [pk_un e, pk_un e, pk_un e]; exact hp6 p (by omega)
        refine z_iconst (v := nI 0) F dX10_solve_118 (by decide) ?_
        refine z_istore_n_3 F dX10_solve_119 rfl ?_
        exact lp t 0 V5 (by omega) hM5 hg5 ht5 h85 hk5 (fun p hp => absurd hp (Nat.not_lt_zero p))
      -- whether there are answers
      have nn : ∀ (d i : Nat) (V3 : Hv) (b : Bool), i + d = n → t ≤ i → rMT a V3 n TE LE (wV s none) → gM a V V3 → vI V3 9 6 (a 0) = 0 → vI V3 9 8 (a 0) = zb b → (∀ k, vA V3 k = vA VE k) → (b || !hasA M n d i) = !hasA M n (n - t) t → zX Γ κ (Z, V3) 0 0 Q 49 [some (.ref (a 0)), some (.int (nI q)), some (.int (nI t)), some (.int (nI i))] [] := by
        intro d
        induction d with
        | zero =>
          intro i V3 b hi hti hM3 hg3 ht3 h83 ha3 hb
          have e2 : vI V3 9 2 (a 0) = nI n := hM3.2.2.1.1.1
          have hb' : b = !hasA M n (n - t) t := by rw [← hb]; show b = (b || !true); simp
          refine z_iload_n F dX10_solve_49 rfl ?_
          refine z_aload_n F dX10_solve_50 rfl ?_
          refine z_getI F dX10_solve_51 gi_X10_44 (by assumption) ?_
          refine z_ti e2 ?_
          refine z_icmp_ge (tgt := 98) F dX10_solve_54 (by decide) (fun c3 => ?_) (fun c3 => ?_)
          · refine z_aload_n F dX10_solve_98 rfl ?_
            refine z_getI F dX10_solve_99 gi_X10_186 (by assumption) ?_
            refine z_ti h83 ?_
            refine z_if_ne (tgt := 118) F dX10_solve_102 (by decide) (fun c4 => ?_) (fun c4 => ?_)
            · have h := zb_t c4
              rw [h] at hb'
              have hh : ¬ hasA M n (n - t) t = true := fun z => by rw [z] at hb'; cases hb'
              rw [if_neg hh] at hQ
              exact cp V3 TE LE false (fun _ => f0) _ hM3 hg3 ht3 (by rw [h83, h]; rfl) (fun k _ _ => ha3 (a k)) (fun z => by cases z) hQ.symm
            · have h := (zb_eq0 _).mp c4
              rw [h] at hb'
              have hh : hasA M n (n - t) t = true := by
                cases hx : hasA M n (n - t) t
                · rw [hx] at hb'; cases hb'
                · rfl
              rw [if_pos hh] at hQ
              refine z_aload_n F dX10_solve_105 rfl ?_
              refine z_iload_n F dX10_solve_106 rfl ?_
              refine z_cVz F (m_answered (many := t) (cc := cc) (M := M) hR hn e2 hM3.2.1 hC ho htn (fun p hp => ⟨by rw [ha3]; exact (hnew p hp).1, (hpv p hp).2, (hpv p hp).1⟩)) dX10_solve_107 ml_X10_189 ok_X10_answered b0 (by decide) rfl rfl rfl (Nat.le_of_ble_eq_true rfl) (by decide) (by decide) (fun r S' hr => ?_)
              obtain ⟨V4, T4, L4, rfl, hE4, hL4, hT4, hr⟩ := hr
              have hM4 : rMT a V4 n T4 L4 (wV s none) := hM3.nv hL4 (fun k _ _ => hE4.i 9 k (a 0)) (hE4.i 9 20 (a 0)) (hE4.ar hR (by decide) (by decide)) hT4
              have hg4 := hg3.trans (gM.ofM hE4)
              have ht4 : vI V4 9 6 (a 0) = 0 := by rw [hE4.i]; exact ht3
              rcases hr with ⟨hr1, rfl⟩ | ⟨U, hr1, rfl, hU⟩
              · rw [hr1] at hQ
                subst hQ
                refine z_if_ne (tgt := 118) F dX10_solve_110 (by decide) (fun c5 => ?_) (fun c5 => ?_)
                · exact absurd rfl c5
                · refine z_aload_n F dX10_solve_113 rfl ?_
                  refine z_cVi F (m_grew hR hM4 ht4) dX10_solve_114 ml_X10_153 ok_X10_grew b0 (by decide) rfl rfl rfl (Nat.le_of_ble_eq_true rfl) (by decide) (by decide) (fun r S' hr => ?_)
                  exact z_iret F dX10_solve_117 rfl (oX.after hg4 hr)
              · rw [hr1] at hQ
                refine z_if_ne (tgt := 118) F dX10_solve_110 (by decide) (fun c5 => ?_) (fun c5 => ?_)
                · exact cp V4 T4 L4 true U _ hM4 hg4 ht4 (by rw [hE4.i, h83, h]; rfl) (fun k h1 h2 => by rw [hE4.ar hR (by omega) (by omega)]; exact ha3 (a k)) (fun _ => hU) hQ.symm
                · exact absurd c5 (by decide)
          · exact absurd (nI_le (by omega) (by omega)) c3
        | succ d ih =>
          intro i V3 b hi hti hM3 hg3 ht3 h83 ha3 hb
          have e2 : vI V3 9 2 (a 0) = nI n := hM3.2.2.1.1.1
          have hha : hasA M n (d + 1) i = if (M i n).2.1 = 0 then hasA M n d (i + 1) else false := rfl
          rw [hha] at hb
          have st : ∀ (b' : Bool) (x : Int32), x = zb b' → (b' || !hasA M n d (i + 1)) = !hasA M n (n - t) t → zX Γ κ (Z, V3) 0 0 Q 89 [some (.ref (a 0)), some (.int (nI q)), some (.int (nI t)), some (.int (nI i))] [.int x, .ref (a 0)] := by
            intro b' x hx hb'
            have x01 : x = 0 ∨ x = 1 := by rw [hx]; exact zb01 b'
            have f3 : ∀ k, k ≠ 8 → vI (sI V3 9 8 (a 0) x) 9 k (a 0) = vI V3 9 k (a 0) := fun k hk => vI9 V3 hk
            refine z_putI F dX10_solve_89 pi_X10_186 (zf_9_8 (by assumption)) (by assumption) ?_
            refine z_iinc_3 F dX10_solve_92 rfl ?_
            refine z_goto (tgt := 49) F dX10_solve_95 (by decide) ?_
            rw [show nI i + Int32.ofInt 1 = nI (i + 1) from nI_1 i]
            refine ih (i + 1) (sI V3 9 8 (a 0) x) b' (by omega) (by omega) (hM3.nv hM3.2.1 (fun k h1 _ => f3 k (by omega)) (f3 20 (by decide)) rfl (tA.refl TE)) (hg3.trans (gM.setI V3 _ _)) (by rw [f3 6 (by decide)]; exact ht3) (by rw [vI_sI_self]; exact hx) (fun k => ha3 k) hb'
          refine z_iload_n F dX10_solve_49 rfl ?_
          refine z_aload_n F dX10_solve_50 rfl ?_
          refine z_getI F dX10_solve_51 gi_X10_44 (by assumption) ?_
          refine z_ti e2 ?_
          refine z_icmp_ge (tgt := 98) F dX10_solve_54 (by decide) (fun c3 => ?_) (fun c3 => ?_)
          · exact absurd ((nI_leI (by omega) (by omega)).mp c3) (by omega)
          · refine z_aload_n F dX10_solve_57 rfl ?_
            refine z_aload_n F dX10_solve_58 rfl ?_
            refine z_getI F dX10_solve_59 gi_X10_186 (by assumption) ?_
            refine z_ti h83 ?_
            refine z_if_ne (tgt := 84) F dX10_solve_62 (by decide) (fun c4 => ?_) (fun c4 => ?_)
            · have h := zb_t c4
              rw [h] at hb
              refine z_iconst (v := nI 1) F dX10_solve_84 (by decide) ?_
              refine z_goto (tgt := 89) F dX10_solve_85 (by decide) ?_
              exact st true _ rfl (by rw [← hb]; rfl)
            · have h := (zb_eq0 _).mp c4
              rw [h] at hb
              refine z_aload_n F dX10_solve_65 rfl ?_
              refine z_bipush (v := nI 70) F dX10_solve_66 (by decide) ?_
              refine z_bipush (v := nI 6) F dX10_solve_68 (by decide) ?_
              refine z_iload_n F dX10_solve_70 rfl ?_
              refine z_imul F dX10_solve_71 ?_
              refine z_ti (pk_mul 6 i) ?_
              refine z_iadd F dX10_solve_72 ?_
              refine z_ti (nI_add 70 _) ?_
              refine z_aload_n F dX10_solve_73 rfl ?_
              refine z_getI F dX10_solve_74 gi_X10_44 (by assumption) ?_
              refine z_ti e2 ?_
              refine z_iadd F dX10_solve_77 ?_
              refine z_ti (nI_add _ _) ?_
              refine z_cVz F (m_isZero (f := 70 + 6 * i + n) hR hM3.2.1 (by omega)) dX10_solve_78 ml_X10_92 ok_X10_isZero b0 (by decide) rfl rfl rfl (Nat.le_of_ble_eq_true rfl) (by decide) (by decide) (fun r S' hr => ?_)
              obtain ⟨rfl, rfl⟩ := hr
              rw [hC i n (by omega) (Nat.le_refl n)]
              refine z_if_ne (tgt := 88) F dX10_solve_81 (by decide) (fun c5 => ?_) (fun c5 => ?_)
              · have h5 := of_decide_eq_true (zb_t c5)
                rw [if_pos h5] at hb
                refine z_iconst (v := nI 0) F dX10_solve_88 (by decide) ?_
                exact st false _ rfl hb
              · have h5 : ¬ (M i n).2.1 = 0 := fun e => zb_f c5 (decide_eq_true e)
                rw [if_neg h5] at hb
                refine z_iconst (v := nI 1) F dX10_solve_84 (by decide) ?_
                refine z_goto (tgt := 89) F dX10_solve_85 (by decide) ?_
                exact st true _ rfl (by rw [← hb]; rfl)
      refine z_istore_n_2 F dX10_solve_30 rfl ?_
      refine z_iload_n F dX10_solve_31 rfl ?_
      refine z_bipush (v := (-3)) F dX10_solve_32 (by decide) ?_
      refine z_icmp_ne (tgt := 42) F dX10_solve_34 (by decide) (fun c2 => ?_) (fun c2 => ?_)
      · have f3 : ∀ k, k ≠ 8 → vI (sI VE 9 8 (a 0) (nI 0)) 9 k (a 0) = vI VE 9 k (a 0) := fun k hk => vI9 VE hk
        refine z_aload_n F dX10_solve_42 rfl ?_
        refine z_iconst (v := nI 0) F dX10_solve_43 (by decide) ?_
        refine z_putI F dX10_solve_44 pi_X10_186 (zf_9_8 (Or.inl rfl)) (by assumption) ?_
        refine z_iload_n F dX10_solve_47 rfl ?_
        refine z_istore_n_3 F dX10_solve_48 rfl ?_
        exact nn (n - t) t (sI VE 9 8 (a 0) (nI 0)) false (by omega) (Nat.le_refl t) (hME.nv hME.2.1 (fun k h1 _ => f3 k (by omega)) (f3 20 (by decide)) rfl (tA.refl TE)) (hgE.trans (gM.setI VE _ _)) (by rw [f3 6 (by decide)]; exact htE) (vI_sI_self _ _ _ _ _) (fun k => rfl) (by rw [Bool.false_or])
      · exact absurd c2 (nI_ne3 (show t < 1000 by omega))
  · have h4 := zb_f c
    have hw : ∀ k, k < 2 → ¬ way = nI k := fun k hk e => h4 (by rw [e]; exact inI_nI hk (by decide))
    rw [if_neg (fun z => z.elim (hw 0 (by decide)) (hw 1 (by decide)))]
    refine z_iconst (v := (-1)) F dX10_solve_14 (by decide) ?_
    exact z_iret F dX10_solve_15 rfl (oX.same hg hM ht)
set_option maxRecDepth 100000 in
set_option maxHeartbeats 2000000 in
theorem m_holds (i : Int32) (hR : mR Z a) (hM : rMT a V n T L s) (hO : sOk n s) : zCt Γ mX10_holds 5 125 0 0 [.ref (a 0), .int i] (Z, V) (pI (oX Z a n V 0 (opHolds n s i))) := by
  refine zCt.of [some (.ref (a 0)), some (.int i), none] pn_X10_holds rfl (Nat.le_of_ble_eq_true rfl) rfl (fun κ F => ?_)
  obtain ⟨b0, b1, b2, -⟩ := hR.1
  obtain ⟨d1, d2, d3, d4⟩ := hR.2.1
  refine z_aload_n F dX10_holds_0 rfl ?_
  refine z_iconst (v := nI 0) F dX10_holds_1 (by decide) ?_
  refine z_putI F dX10_holds_2 pi_X10_52 (zf_9_6 _) (by assumption) ?_
  obtain ⟨V1, e1, hg, ht, hM⟩ := hM.th0
  refine z_V (Z := Z) e1 ?_
  have h2 := hM.2.2.1.1.1
  have hn := hM.1
  obtain ⟨h7, hv⟩ := hM.2.2.1.2.1
  generalize hQ : zQ Γ κ (pI (oX Z a n V 0 (opHolds n s i))) 0 0 = Q
  have no : svT (tv s) = false → zX Γ κ (Z, V1) 0 0 Q 19 [some (.ref (a 0)), some (.int i), none] [] := by
    intro h
    subst hQ
    unfold opHolds
    rw [if_neg (by rw [h]; decide)]
    refine z_bipush (v := (-5)) F dX10_holds_19 (by decide) ?_
    exact z_iret F dX10_holds_21 rfl (oX.same hg hM ht)
  refine z_aload_n F dX10_holds_5 rfl ?_
  refine z_getI F dX10_holds_6 gi_X10_180 (by assumption) ?_
  refine z_ti h7 ?_
  cases hs : tv s with
  | none =>
    refine z_if_eq (tgt := 19) F dX10_holds_9 (by decide) (fun c => ?_) (fun c => ?_)
    · exact no (by rw [hs]; rfl)
    · exact absurd rfl c
  | some v =>
    obtain ⟨h8, h9, hle, -⟩ := hv v hs
    refine z_if_eq (tgt := 19) F dX10_holds_9 (by decide) (fun c => ?_) (fun c => ?_)
    · exact absurd c (show ¬ zb true = 0 by decide)
    · refine z_aload_n F dX10_holds_12 rfl ?_
      refine z_getI F dX10_holds_13 gi_X10_186 (by assumption) ?_
      refine z_ti h8 ?_
      refine z_if_eq (tgt := 22) F dX10_holds_16 (by decide) (fun c2 => ?_) (fun c2 => ?_)
      · have h := (zb_eq0 _).mp c2
        rw [Bool.not_eq_false'] at h
        have hT := hM.2.2.2.2.2.1 v hs h
        have oU := hO.2.2.1 v hs h
        unfold opHolds at hQ
        rw [hs, if_pos (show svT (some v) = true from h)] at hQ
        refine z_iload_n F dX10_holds_22 rfl ?_
        refine z_iconst (v := nI 0) F dX10_holds_23 (by decide) ?_
        refine z_aload_n F dX10_holds_24 rfl ?_
        refine z_getI F dX10_holds_25 gi_X10_44 (by assumption) ?_
        refine z_ti h2 ?_
        refine z_iconst (v := nI 1) F dX10_holds_28 (by decide) ?_
        refine z_isub F dX10_holds_29 ?_
        refine z_cSz F (m_isIn i (nI 0) (nI n - nI 1)) dX10_holds_30 ml_X10_119 ok_X10_isIn rfl rfl rfl (Nat.le_of_ble_eq_true rfl) (by decide) (by decide) (fun r S' hr => ?_)
        obtain ⟨rfl, rfl⟩ := hr
        rw [inI_m1 i (show n < 1000 by omega)]
        refine z_if_ne (tgt := 38) F dX10_holds_33 (by decide) (fun c3 => ?_) (fun c3 => ?_)
        · have h5 := zb_t c3
          rw [if_pos h5] at hQ
          obtain ⟨p, hp, rfl, ep⟩ := inI_t h5 (show n < 2147483648 by omega)
          simp only [ep] at hQ
          obtain ⟨U, hU⟩ : ∃ U, U = v.2.2.2.2.2 := ⟨_, rfl⟩
          rw [← hU] at hQ hT oU
          obtain ⟨R, hRR⟩ : ∃ R, R = sumR (tm s p) U n 0 f0 := ⟨_, rfl⟩
          rw [← hRR] at hQ
          have rowT := hM.2.2.2.2.1 p
          have rowO := hO.2.1 p
          have loop : ∀ (d k : Nat) (V3 : Hv) (T3 : Nat → Fr) (L3 : Nat → Nat) (y : Fr), k + d = n → e2A a V1 V3 → mL a V3 T3 L3 → tZ T T3 → T3 108 = y → fok y → sumR (tm s p) U d k y = R → zX Γ κ (Z, V3) 0 0 Q 46 [some (.ref (a 0)), some (.int (nI p)), some (.int (nI k))] [] := by
            intro d
            induction d with
            | zero =>
              intro k V3 T3 L3 y hk hE3 hL3 hT3 h108 oy hsp
              have hM3 := hM.e hR hE3.e hL3 hT3
              have e2 : vI V3 9 2 (a 0) = nI n := hM3.2.2.1.1.1
              have hsp' : R = some y := hsp.symm
              rw [hsp'] at hQ
              simp only at hQ
              have eT : T3 (40 + 6 * p + n) = tm s p n := hM3.2.2.2.2.1 p n hp (Nat.le_refl n)
              have oT := rowO n hp (Nat.le_refl n)
              have inx := hR.inb (f := 40 + 6 * p + n) (by omega)
              have iny := hR.inb (f := 108) (by decide)
              have rbx := hL3.rb (f := 40 + 6 * p + n) (by omega)
              have rby := hL3.rb (f := 108) (by decide)
              obtain ⟨ux, vx, -⟩ := hL3.2 (40 + 6 * p + n) (by omega)
              obtain ⟨uy, vy, -⟩ := hL3.2 108 (by decide)
              rw [eT] at rbx ux vx
              rw [h108] at rby uy vy
              have hg3 := hg.trans (gM.ofM hE3)
              have ht3 : vI V3 9 6 (a 0) = 0 := by rw [hE3.i]; exact ht
              have hcm := fcmp_0 oy.1 oT.1
              have bad : ¬ y = tm s p n → zX Γ κ (Z, V3) 0 0 Q 162 [some (.ref (a 0)), some (.int (nI p)), some (.int (nI (40 + 6 * p + n)))] [] := by
                intro hne
                rw [if_neg (fun z => hne (hcm.mp z))] at hQ
                subst hQ
                refine z_iconst (v := nI 0) F dX10_holds_162 (by decide) ?_
                exact z_iret F dX10_holds_163 rfl (oX.same hg3 hM3 ht3)
              refine z_iload_n F dX10_holds_46 rfl ?_
              refine z_aload_n F dX10_holds_47 rfl ?_
              refine z_getI F dX10_holds_48 gi_X10_44 (by assumption) ?_
              refine z_ti e2 ?_
              refine z_icmp_ge (tgt := 101) F dX10_holds_51 (by decide) (fun c4 => ?_) (fun c4 => ?_)
              · refine z_bipush (v := nI 40) F dX10_holds_101 (by decide) ?_
                refine z_bipush (v := nI 6) F dX10_holds_103 (by decide) ?_
                refine z_iload_n F dX10_holds_105 rfl ?_
                refine z_imul F dX10_holds_106 ?_
                refine z_ti (pk_mul 6 p) ?_
                refine z_iadd F dX10_holds_107 ?_
                refine z_ti (nI_add 40 _) ?_
                refine z_aload_n F dX10_holds_108 rfl ?_
                refine z_getI F dX10_holds_109 gi_X10_44 (by assumption) ?_
                refine z_ti e2 ?_
                refine z_iadd F dX10_holds_112 ?_
                refine z_ti (nI_add _ _) ?_
                refine z_istore_n_2 F dX10_holds_113 rfl ?_
                refine z_aload_n F dX10_holds_114 rfl ?_
                refine z_getR F dX10_holds_115 gr_X10_13 (by assumption) (by assumption) ?_
                refine z_iload_n F dX10_holds_118 rfl ?_
                refine z_zald F dX10_holds_119 (by assumption) (by assumption) ?_
                refine z_ti rbx ?_
                refine z_aload_n F dX10_holds_120 rfl ?_
                refine z_getR F dX10_holds_121 gr_X10_13 (by assumption) (by assumption) ?_
                refine z_bipush (v := nI 108) F dX10_holds_124 (by decide) ?_
                refine z_zald F dX10_holds_126 (by assumption) (by assumption) ?_
                refine z_ti rby ?_
                refine z_icmp_ne (tgt := 162) F dX10_holds_127 (by decide) (fun c5 => ?_) (fun c5 => ?_)
                · exact bad (fun e => c5 (by rw [e]))
                · have q1 := (zb_cmp _ _).mp c5
                  refine z_aload_n F dX10_holds_130 rfl ?_
                  refine z_iconst (v := nI 2) F dX10_holds_131 (by decide) ?_
                  refine z_iload_n F dX10_holds_132 rfl ?_
                  refine z_imul F dX10_holds_133 ?_
                  refine z_ti (pk_mul 2 _) ?_
                  refine z_sipush (v := nI 216) F dX10_holds_134 (by decide) ?_
                  refine z_cVi F (m_orderOf (s := 2 * (40 + 6 * p + n)) (t := 216) hR hL3.1 (by omega) (by decide)) dX10_holds_137 ml_X10_76 ok_X10_orderOf b0 (by decide) rfl rfl rfl (Nat.le_of_ble_eq_true rfl) (by decide) (by decide) (fun r S' hr => ?_)
                  obtain ⟨rfl, rfl⟩ := hr
                  rw [ux, show L3 216 = y.2.1 from uy]
                  refine z_if_ne (tgt := 162) F dX10_holds_140 (by decide) (fun c6 => ?_) (fun c6 => ?_)
                  · exact bad (fun e => c6 (by rw [e]; exact (cmpI_eq _ _).mpr rfl))
                  · have q2 := (cmpI_eq _ _).mp c6
                    refine z_aload_n F dX10_holds_143 rfl ?_
                    refine z_iconst (v := nI 2) F dX10_holds_144 (by decide) ?_
                    refine z_iload_n F dX10_holds_145 rfl ?_
                    refine z_imul F dX10_holds_146 ?_
                    refine z_ti (pk_mul 2 _) ?_
                    refine z_iconst (v := nI 1) F dX10_holds_147 (by decide) ?_
                    refine z_iadd F dX10_holds_148 ?_
                    refine z_ti (nI_add _ 1) ?_
                    refine z_sipush (v := nI 217) F dX10_holds_149 (by decide) ?_
                    refine z_cVi F (m_orderOf (s := 2 * (40 + 6 * p + n) + 1) (t := 217) hR hL3.1 (by omega) (by decide)) dX10_holds_152 ml_X10_76 ok_X10_orderOf b0 (by decide) rfl rfl rfl (Nat.le_of_ble_eq_true rfl) (by decide) (by decide) (fun r S' hr => ?_)
                    obtain ⟨rfl, rfl⟩ := hr
                    rw [vx, show L3 217 = y.2.2 from vy]
                    refine z_if_ne (tgt := 162) F dX10_holds_155 (by decide) (fun c7 => ?_) (fun c7 => ?_)
                    · exact bad (fun e => c7 (by rw [e]; exact (cmpI_eq _ _).mpr rfl))
                    · have q3 := (cmpI_eq _ _).mp c7
                      have he : y = tm s p n := by
                        rw [fr3 y, fr3 (tm s p n), q1, q2, q3]
                      rw [if_pos (hcm.mpr he)] at hQ
                      subst hQ
                      refine z_iconst (v := nI 1) F dX10_holds_158 (by decide) ?_
                      refine z_goto (tgt := 163) F dX10_holds_159 (by decide) ?_
                      exact z_iret F dX10_holds_163 rfl (oX.same hg3 hM3 ht3)
              · exact absurd (nI_le (by omega) (by omega)) c4
            | succ d ih =>
              intro k V3 T3 L3 y hk hE3 hL3 hT3 h108 oy hsp
              have hM3 := hM.e hR hE3.e hL3 hT3
              have e2 : vI V3 9 2 (a 0) = nI n := hM3.2.2.1.1.1
              have eT : T3 (40 + 6 * p + k) = tm s p k := hM3.2.2.2.2.1 p k hp (by omega)
              have eU : T3 (100 + k) = U k := by rw [hT3 _ (by unfold scr; omega)]; exact hT k (by omega)
              have oM := rowO k hp (by omega)
              have ok := oU k (by omega)
              have hsu : sumR (tm s p) U (d + 1) k y = if wideB (fmul (tm s p k) (U k) false) = true then (if wideB (fadd y (fmul (tm s p k) (U k) false) false) = true then sumR (tm s p) U d (k + 1) (fadd y (fmul (tm s p k) (U k) false) false) else none) else none := rfl
              rw [hsu] at hsp
              have kn : R = none → ∀ V4 T4 L4, e2A a V1 V4 → mL a V4 T4 L4 → tZ T T4 → zX Γ κ (Z, V4) 0 0 Q 90 [some (.ref (a 0)), some (.int (nI p)), some (.int (nI k))] [] := by
                intro hk V4 T4 L4 hE4 hL4 hT4
                rw [hk] at hQ
                simp only at hQ
                subst hQ
                refine z_aload_n F dX10_holds_90 rfl ?_
                refine z_cVi F (m_grew (th := 0) hR (hM.e hR hE4.e hL4 hT4) (by rw [hE4.i]; exact ht)) dX10_holds_91 ml_X10_153 ok_X10_grew b0 (by decide) rfl rfl rfl (Nat.le_of_ble_eq_true rfl) (by decide) (by decide) (fun r S' hr => ?_)
                exact z_iret F dX10_holds_94 rfl (oX.after (hg.trans (gM.ofM hE4)) hr)
              obtain ⟨w, hw⟩ : ∃ w, w = fmul (tm s p k) (U k) false := ⟨_, rfl⟩
              rw [← hw] at hsp
              refine z_iload_n F dX10_holds_46 rfl ?_
              refine z_aload_n F dX10_holds_47 rfl ?_
              refine z_getI F dX10_holds_48 gi_X10_44 (by assumption) ?_
              refine z_ti e2 ?_
              refine z_icmp_ge (tgt := 101) F dX10_holds_51 (by decide) (fun c4 => ?_) (fun c4 => ?_)
              · exact absurd ((nI_leI (by omega) (by omega)).mp c4) (by omega)
              · refine z_aload_n F dX10_holds_54 rfl ?_
                refine z_bipush (v := nI 40) F dX10_holds_55 (by decide) ?_
                refine z_bipush (v := nI 6) F dX10_holds_57 (by decide) ?_
                refine z_iload_n F dX10_holds_59 rfl ?_
                refine z_imul F dX10_holds_60 ?_
                refine z_ti (pk_mul 6 p) ?_
                refine z_iadd F dX10_holds_61 ?_
                refine z_ti (nI_add 40 _) ?_
                refine z_iload_n F dX10_holds_62 rfl ?_
                refine z_iadd F dX10_holds_63 ?_
                refine z_ti (nI_add _ _) ?_
                refine z_bipush (v := nI 100) F dX10_holds_64 (by decide) ?_
                refine z_iload_n F dX10_holds_66 rfl ?_
                refine z_iadd F dX10_holds_67 ?_
                refine z_ti (nI_add 100 _) ?_
                refine z_bipush (v := nI 107) F dX10_holds_68 (by decide) ?_
                refine z_cVz F (m_product (x := 40 + 6 * p + k) (y := 100 + k) (c := 107) hR hL3 (by omega) (by omega) (by decide) (by rw [eT]; exact oM.2) (by rw [eU]; exact ok.2) (by rw [eT]; exact Nat.ne_of_gt oM.1.1) (by rw [eU]; exact Nat.ne_of_gt ok.1.1)) dX10_holds_70 ml_X10_144 ok_X10_product b0 (by decide) rfl rfl rfl (Nat.le_of_ble_eq_true rfl) (by decide) (by decide) (fun r S' hr => ?_)
                rw [eT, eU, ← hw] at hr
                obtain ⟨rfl, V4, L4, rfl, hE4, hL4⟩ := hr
                have hT4 := hT3.trans (tZ.up (T := T3) (q := 107) (x := w) (by unfold scr; omega))
                have z107 : va_up T3 107 w 107 = w := up_self _ _ _
                have z108 : va_up T3 107 w 108 = y := by rw [up_ne _ _ (by decide)]; exact h108
                generalize va_up T3 107 w = T4 at hL4 hT4 z107 z108
                have hE34 := hE3.trans hE4
                refine z_if_eq (tgt := 90) F dX10_holds_73 (by decide) (fun c5 => ?_) (fun c5 => ?_)
                · have hw2 := zb_f c5
                  rw [if_neg hw2] at hsp
                  exact kn hsp.symm V4 T4 L4 hE34 hL4 hT4
                · have hw2 := zb_t c5
                  rw [if_pos hw2] at hsp
                  have ow : fok w := by rw [hw] at hw2 ⊢; exact fmul_ok oM ok (fun z => by cases z) hw2
                  obtain ⟨z, hz⟩ : ∃ z, z = fadd y w false := ⟨_, rfl⟩
                  rw [← hz] at hsp
                  refine z_aload_n F dX10_holds_76 rfl ?_
                  refine z_bipush (v := nI 108) F dX10_holds_77 (by decide) ?_
                  refine z_bipush (v := nI 107) F dX10_holds_79 (by decide) ?_
                  refine z_bipush (v := nI 108) F dX10_holds_81 (by decide) ?_
                  refine z_iconst (v := nI 0) F dX10_holds_83 (by decide) ?_
                  refine z_cVz F (m_total (x := 108) (y := 107) (c := 108) false hR hL4 (by decide) (by decide) (by decide) (by rw [z108]; exact oy.2) (by rw [z107]; exact ow.2) (by rw [z108]; exact Nat.ne_of_gt oy.1.1) (by rw [z107]; exact Nat.ne_of_gt ow.1.1)) dX10_holds_84 ml_X10_140 ok_X10_total b0 (by decide) rfl rfl rfl (Nat.le_of_ble_eq_true rfl) (by decide) (by decide) (fun r S' hr => ?_)
                  rw [z107, z108, ← hz] at hr
                  obtain ⟨rfl, V5, L5, rfl, hE5, hL5⟩ := hr
                  have hT5 := hT4.trans (tZ.up (T := T4) (q := 108) (x := z) (by unfold scr; omega))
                  refine z_if_ne (tgt := 95) F dX10_holds_87 (by decide) (fun c6 => ?_) (fun c6 => ?_)
                  · have hw3 := zb_t c6
                    rw [if_pos hw3] at hsp
                    have oz : fok z := by rw [hz] at hw3 ⊢; exact fadd_ok oy ow hw3
                    refine z_iinc_2 F dX10_holds_95 rfl ?_
                    refine z_goto (tgt := 46) F dX10_holds_98 (by decide) ?_
                    rw [show nI k + Int32.ofInt 1 = nI (k + 1) from nI_1 k]
                    exact ih (k + 1) V5 _ L5 z (by omega) (hE34.trans hE5) hL5 hT5 (up_self _ _ _) oz hsp
                  · have hw3 := zb_f c6
                    rw [if_neg hw3] at hsp
                    exact kn hsp.symm V5 _ L5 (hE34.trans hE5) hL5 hT5
          refine z_aload_n F dX10_holds_38 rfl ?_
          refine z_bipush (v := nI 108) F dX10_holds_39 (by decide) ?_
          refine z_cVv F (m_nothing (f := 108) hR hM.2.1 (by decide)) dX10_holds_41 ml_X10_48 ok_X10_nothing b0 (by decide) rfl rfl rfl (Nat.le_of_ble_eq_true rfl) (by decide) (by decide) (fun S' hS' => ?_)
          obtain ⟨V2, L2, rfl, hE2, hL2⟩ := hS'
          refine z_iconst (v := nI 0) F dX10_holds_44 (by decide) ?_
          refine z_istore_n_2 F dX10_holds_45 rfl ?_
          exact loop n 0 V2 _ L2 f0 (by omega) hE2 hL2 (tZ.up (by unfold scr; omega)) (up_self _ _ _) f0_ok hRR.symm
        · have h5 := zb_f c3
          rw [if_neg h5] at hQ
          subst hQ
          refine z_iconst (v := (-1)) F dX10_holds_36 (by decide) ?_
          exact z_iret F dX10_holds_37 rfl (oX.same hg hM ht)
      · have h := zb_t c2
        rw [Bool.not_eq_true'] at h
        exact no (by rw [hs]; exact h)
end MOD17
