/-! ===== FractionRows: holds, solve, determinant ===== -/
section ROWS5
variable {Γ : Gm} {Z : Hz} {G : Ga} {V : Hv} {T : Nat → Fr} {X : Nat → Nat} {s : St}
theorem rCT.mEq (hC : rCT Z G V T X s) : mEq G.n (mE T G.n G.ee) (tm s) := fun p k hp hk => hC.2.2.2.1 p k hp hk
theorem xR.ba10 (hR : xR Z G) : zIn Z G.ba 10 := hR.2.2.2.1.2.2.2.2.2.2.2.1
theorem xR.ba11 {a : Nat} (hR : xR Z G) (h : zIn Z a 11) : G.ba ≠ a := fun e => by
  have h1 := hR.ba10.2
  rw [e, h.2] at h1
  exact absurd h1 (by decide)
/-- SOLVED changes -/
theorem rCT.solved {V1 : Hv} {T1 : Nat → Fr} {sv : Option Sv} (hR : xR Z G) (hC : rCT Z G V T X s) (hK : KS Z G.uo G.vo G.w V1 T1 X) (hG : gS Z G.SO G.c1 G.c2 G.c3 V V1) (h1 : ∀ i, i < tc s → T1 (G.nu i) = T (G.nu i)) (h2 : ∀ k, k < G.n * (G.n + 1) → T1 (G.ee k) = T (G.ee k)) (hO : sO V1 T1 G.SO G.n G.c1 G.c2 G.c3 G.uk sv) : rCT Z G V1 T1 X (wV s sv) := by
  obtain ⟨-, ⟨i1, i2, i3, i4, i5, i6⟩, hn, hm, -, ⟨j1, j2, j3, j4, j5⟩, hy, y1, y2, y3⟩ := hC
  have ni : ∀ {ci k a : Nat}, ci ≠ 7 → ci ≠ 3 → ci ≠ 5 → vI V1 ci k a = vI V ci k a := fun h7 h3 h5 => hG.1 _ _ _ (fun z => by rcases z with (z | z) | z; exact h7 z.1; exact h3 z.1; exact h5 z.1)
  obtain ⟨-, ⟨d1, d2, d3, d4, d5, d6, -⟩, -⟩ := hR.2.2.2.1.2.2.1
  have hba : vA V1 G.ba = vA V G.ba := hG.2.1 _ (fun z => by
    rcases z with z | z | z | z
    · exact npA10 hR.ba10 z
    · exact hR.ba11 d1 z
    · exact hR.ba11 d3 z
    · exact hR.ba11 d5 z)
  exact ⟨hK, ⟨(ni (by decide) (by decide) (by decide)).trans i1, (ni (by decide) (by decide) (by decide)).trans i2, i3, (ni (by decide) (by decide) (by decide)).trans i4, (ni (by decide) (by decide) (by decide)).trans i5, (ni (by decide) (by decide) (by decide)).trans i6⟩, fun i hi => (h1 i hi).trans (hn i hi), fun p k hp hk => (h2 _ (idx_lt hp hk)).trans (hm p k hp hk), hO, ⟨j1, j2, (ni (by decide) (by decide) (by decide)).trans j3, j4, j5⟩, hy, (ni (by decide) (by decide) (by decide)).trans y1, fun i hi => by rw [hba]; exact y2 i hi, y3⟩
theorem gC.ofS {V1 : Hv} (hG : gS Z G.SO G.c1 G.c2 G.c3 V V1) : gC Z G V V1 := hG.mono (fun ci k a z => by rcases z with (z | z) | z <;> (rw [z.1]; decide)) (fun a z => by
  rcases z with z | z | z | z
  · exact Or.inl z
  · exact Or.inr (Or.inr (Or.inr (Or.inr (Or.inl z))))
  · exact Or.inr (Or.inr (Or.inr (Or.inr (Or.inr (Or.inl z)))))
  · exact Or.inr (Or.inr (Or.inr (Or.inr (Or.inr (Or.inr (Or.inl z)))))))
theorem gC.ofE {V1 : Hv} (hG : gE Z G.E G.ra G.co V V1) : gC Z G V V1 := hG.mono (fun ci k a z => by rcases z with (z | z) | z <;> (rw [z.1]; decide)) (fun a z => by
  rcases z with z | z | z
  · exact Or.inl z
  · exact Or.inr (Or.inl z)
  · exact Or.inr (Or.inr (Or.inl z)))
theorem gC.ofT {V1 : Hv} (hG : gT Z G.oa V V1) : gC Z G V V1 := hG.mono (fun ci k a z => by rcases z with z | z <;> (rw [z.1]; decide)) (fun a z => by
  rcases z with z | z
  · exact Or.inl z
  · exact Or.inr (Or.inr (Or.inr (Or.inl z))))
/-- what is seen stays over an elimination -/
theorem vEq.ofE {V1 : Hv} (hR : xR Z G) (hG : gE Z G.E G.ra G.co V V1) (h2 : vI V1 2 0 G.E = vI V 2 0 G.E) : vEq G V V1 := by
  have ni : ∀ {ci k a : Nat}, ci ≠ 7 → ci ≠ 3 → ci ≠ 2 → vI V1 ci k a = vI V ci k a := fun h7 h3 h5 => hG.1 _ _ _ (fun z => by rcases z with (z | z) | z; exact h7 z.1; exact h3 z.1; exact h5 z.1)
  obtain ⟨-, -, -, ⟨hE, -, hs, -, -⟩, ⟨-, -, ⟨f1, f2, f3, f4, f5, f6⟩, -⟩⟩ := id hR
  have hc := hs.2.2.2.2.2.2
  have na : ∀ {a : Nat}, ¬ pA0 Z a → G.fc a ≠ 12 → G.fc a ≠ 13 → vA V1 a = vA V a := fun h0 h12 h13 => hG.2.1 _ (fun z => by
    rcases z with z | z | z
    · exact h0 z
    · exact h12 (by rw [z, f1])
    · exact h13 (by rw [z, f2]))
  obtain ⟨-, ⟨-, -, g3, -, g5, -⟩, -⟩ := hE
  have hba : vA V1 G.ba = vA V G.ba := hG.2.1 _ (fun z => by
    rcases z with z | z | z
    · exact npA10 hR.ba10 z
    · exact hR.ba11 g3 z
    · exact hR.ba11 g5 z)
  exact ⟨fun k => ni (by decide) (by decide) (by decide), h2, ni (by decide) (by decide) (by decide), fun k => ni (by decide) (by decide) (by decide), fun k => ni (by decide) (by decide) (by decide), fun k => ni (by decide) (by decide) (by decide), na hc.1 (by rw [f4]; decide) (by rw [f4]; decide), na hc.2.1 (by rw [f5]; decide) (by rw [f5]; decide), na hc.2.2.1 (by rw [f6]; decide) (by rw [f6]; decide), hba⟩
theorem vEq.ofT {V1 : Hv} (hR : xR Z G) (hG : gT Z G.oa V V1) : vEq G V V1 := by
  have ni : ∀ {ci k a : Nat}, ci ≠ 7 → ci ≠ 3 → vI V1 ci k a = vI V ci k a := fun h7 h3 => hG.1 _ _ _ (fun z => by rcases z with z | z; exact h7 z.1; exact h3 z.1)
  obtain ⟨-, -, -, ⟨-, hD, hs, -, -⟩, ⟨-, -, ⟨f1, f2, f3, f4, f5, f6⟩, -⟩⟩ := id hR
  have hc := hs.2.2.2.2.2.2
  have na : ∀ {a : Nat}, ¬ pA0 Z a → G.fc a ≠ 14 → vA V1 a = vA V a := fun h0 h14 => hG.2.1 _ (fun z => by
    rcases z with z | z
    · exact h0 z
    · exact h14 (by rw [z, f3]))
  have hba : vA V1 G.ba = vA V G.ba := hG.2.1 _ (fun z => by
    rcases z with z | z
    · exact npA10 hR.ba10 z
    · exact hR.ba11 hD.2.1.1 z)
  exact ⟨fun k => ni (by decide) (by decide), ni (by decide) (by decide), ni (by decide) (by decide), fun k => ni (by decide) (by decide), fun k => ni (by decide) (by decide), fun k => ni (by decide) (by decide), na hc.1 (by rw [f4]; decide), na hc.2.1 (by rw [f5]; decide), na hc.2.2.1 (by rw [f6]; decide), hba⟩
/-- what changes only Fractions of no NUMBER, ENTRY, unknown -/
theorem tEq.of {T1 : Nat → Fr} (hR : xR Z G) (hs : tc s ≤ 40) (h : ∀ q, G.fc q ≤ 2 ∨ G.fc q = 7 → G.fc q ≠ 0 → T1 q = T q) : tEq G s T T1 := by
  obtain ⟨-, -, -, -, ⟨⟨d1, d2, -, -, -, -, d7, -, -⟩, -⟩⟩ := hR
  refine ⟨fun i hi => h _ ?_ ?_, fun k hk => h _ ?_ ?_, fun j hj => h _ ?_ ?_⟩
  · rw [d1 i (by omega)]; omega
  · rw [d1 i (by omega)]; decide
  · rw [d2 k hk]; omega
  · rw [d2 k hk]; decide
  · rw [d7 j hj]; omega
  · rw [d7 j hj]; decide
theorem tS.ok {T1 : Nat → Fr} (hR : xR Z G) (h : tS G.we G.n G.fa G.pd T T1) : ∀ q, G.fc q ≤ 2 ∨ G.fc q = 7 → G.fc q ≠ 0 → T1 q = T q := by
  obtain ⟨-, -, -, -, ⟨⟨-, -, d3, d4, d5, -⟩, -⟩⟩ := hR
  intro q h1 _
  refine h q (fun i hi e => ?_) (fun e => ?_) (fun e => ?_)
  · rw [e, d3 i hi] at h1; omega
  · rw [e, d4] at h1; omega
  · rw [e, d5] at h1; omega
set_option maxRecDepth 100000 in
theorem c_holds (i : Int32) (hR : xR Z G) (hC : rCT Z G V T X s) : zCt Γ mX9_holds 6 165 0 0 [.ref G.x, .int i] (Z, V) (pI (oP Z G V (opHolds G.n s i))) := by
  refine zCt.of [some (.ref G.x), some (.int i)] pn_X9_holds rfl (Nat.le_of_ble_eq_true rfl) rfl (fun κ F => ?_)
  obtain ⟨b0, b1, b2, b3, b4, b5, b6, b7, b8⟩ := hR.1
  obtain ⟨hJ, hS, hA⟩ := hR.2.1
  have hn5 := hR.n5
  have hcs := hC.2.1.2.2.1
  have hRs := hR.2.2.2.1.2.2.1
  obtain ⟨⟨hs0, e1, e2, e3, e4, e5, e6, e7⟩, ⟨d1, d2, d3, d4, d5, d6, d7, d8, u1, u2, u3⟩, -⟩ := id hRs
  obtain ⟨⟨fd1, fd2, fd3, fd4, fd5, fd6, fd7, fd8, fd9⟩, -⟩ := hR.2.2.2.2
  have hOs := hC.2.2.2.2.1
  obtain ⟨s1, s2, s3⟩ := id hOs
  have h0 := hC.2.1.1
  refine z_aload_n F dX9_holds_0 rfl ?_
  refine z_getR F dX9_holds_1 gr_X9_61 (by assumption) (by assumption) ?_
  refine z_cVz F (c_tellsUnknowns hRs hOs) dX9_holds_4 ml_X9_193 ok_X6_tellsUnknowns hs0 (by decide) rfl rfl rfl (Nat.le_of_ble_eq_true rfl) (by decide) (by decide) (fun r S' hr => ?_)
  obtain ⟨rfl, rfl⟩ := hr
  unfold opHolds
  refine z_if_ne (tgt := 13) F dX9_holds_7 (by decide) (fun c => ?_) (fun c => ?_)
  · have h := zb_t c
    rw [if_pos h]
    refine z_iload_n F dX9_holds_13 rfl ?_
    refine z_if_lt (tgt := 25) F dX9_holds_14 (by decide) (fun c2 => ?_) (fun c2 => ?_)
    · rw [if_neg (by rw [inI_f (Or.inl c2)]; decide)]
      refine z_iconst (v := (-1)) F dX9_holds_25 (by decide) ?_
      exact z_iret F dX9_holds_26 rfl (oP.same hC)
    · refine z_iload_n F dX9_holds_17 rfl ?_
      refine z_aload_n F dX9_holds_18 rfl ?_
      refine z_getI F dX9_holds_19 gi_X9_21 (by assumption) ?_
      refine z_ti h0 ?_
      refine z_icmp_lt (tgt := 27) F dX9_holds_22 (by decide) (fun c3 => ?_) (fun c3 => ?_)
      · have hin : inI i G.n = true := inI_of c2 (fun z => by have h1 := Int32.lt_iff_toInt_lt.mp c3; have h2 := Int32.le_iff_toInt_le.mp z; omega)
        rw [if_pos hin]
        obtain ⟨k, hk, rfl, ek⟩ := inI_t hin (by omega)
        rw [ek]
        cases hv : tv s with
        | none => rw [hv] at h; cases h
        | some v =>
          rw [hv] at h
          obtain ⟨q1, q2, q3, q4, q5⟩ := s3 v hv
          simp only
          have hcong : sumR (fun j => T (G.ee (k * (G.n + 1) + j))) v.2.2.2.2.2 G.n 0 f0 = sumR (tm s k) v.2.2.2.2.2 G.n 0 f0 := sumR_congr (fun j hj => hC.2.2.2.1 k j hk (Nat.le_of_lt hj)) (fun _ _ => rfl) G.n 0 f0 (by omega)
          have hep : ∀ k, k < G.n * (G.n + 1) → G.ee k ≠ G.pq ∧ G.ee k ≠ G.su := fun k hk => ⟨fun e => by have := fd2 k hk; rw [e, fd8] at this; omega, fun e => by have := fd2 k hk; rw [e, fd9] at this; omega⟩
          refine z_aload_n F dX9_holds_27 rfl ?_
          refine z_getR F dX9_holds_28 gr_X9_61 (by assumption) (by assumption) ?_
          refine z_aload_n F dX9_holds_31 rfl ?_
          refine z_getR F dX9_holds_32 gr_X9_39 (by assumption) (by assumption) ?_
          refine z_iload_n F dX9_holds_35 rfl ?_
          refine z_cVz F (c_addUp hC.1 hJ hA hS hRs s1 (q5 h) hR.2.2.1.2 hep hk) dX9_holds_36 ml_X9_208 ok_X6_addUp hs0 (by decide) rfl rfl rfl (Nat.le_of_ble_eq_true rfl) (by decide) (by decide) (fun r S' hr => ?_)
          obtain ⟨V1, T1, rfl, hK1, hF1, hT1, hcase⟩ := hr
          rw [hcong] at hcase
          have ht1 : tEq G s T T1 := tEq.of hR hcs (fun q hq _ => hT1 q (fun z => by rcases z with z | z <;> (rw [z] at hq; omega)))
          have hC1 := hC.view hK1 (vEq.ofF hR hF1) ht1 (xEq.refl G X)
          rcases hcase with ⟨hno, rfl⟩ | ⟨x, hso, rfl, hx⟩
          · rw [hno]
            refine z_if_ne (tgt := 47) F dX9_holds_39 (by decide) (fun c4 => ?_) (fun c4 => ?_)
            · exact absurd rfl c4
            · refine z_aload_n F dX9_holds_42 rfl ?_
              refine z_cVi F (c_grew hR hC1) dX9_holds_43 ml_X9_181 ok_X9_grew b0 (by decide) rfl rfl rfl (Nat.le_of_ble_eq_true rfl) (by decide) (by decide) (fun r S' hr => ?_)
              exact z_iret F dX9_holds_46 rfl (oP.after (gC.ofF hF1) hr)
          · rw [hso]
            simp only
            have ze := hR.ent hk (Nat.le_refl G.n)
            refine z_if_ne (tgt := 47) F dX9_holds_39 (by decide) (fun c4 => ?_) (fun c4 => ?_)
            · refine z_aload_n F dX9_holds_47 rfl ?_
              refine z_getR F dX9_holds_48 gr_X9_25 (by assumption) (by assumption) ?_
              refine z_aload_n F dX9_holds_51 rfl ?_
              refine z_getR F dX9_holds_52 gr_X9_61 (by assumption) (by assumption) ?_
              refine z_getR F dX9_holds_55 gr_X9_212 (by assumption) (by assumption) ?_
              refine z_aload_n F dX9_holds_58 rfl ?_
              refine z_iload_n F dX9_holds_59 rfl ?_
              refine z_aload_n F dX9_holds_60 rfl ?_
              refine z_getI F dX9_holds_61 gi_X9_21 (by assumption) ?_
              refine z_ti hC1.2.1.1 ?_
              refine z_cVr F (c_entryAt hR hC1 hk (Nat.le_refl G.n)) dX9_holds_64 ml_X9_158 ok_X9_entryAt b0 (by decide) rfl rfl rfl (Nat.le_of_ble_eq_true rfl) (by decide) (by decide) (fun r S' hr => ?_)
              obtain ⟨rfl, rfl⟩ := hr
              refine z_cVi F (K_order hK1 hJ hA hS d8 ze) dX9_holds_67 ml_X9_117 ok_X0_order hA.1 (by decide) rfl rfl rfl (Nat.le_of_ble_eq_true rfl) (by decide) (by decide) (fun r S' hr => ?_)
              obtain ⟨rfl, V2, rfl, hK2, hF2⟩ := hr
              rw [hx, hC1.2.2.2.1 k G.n hk (Nat.le_refl _)]
              have hC2 := hC1.view hK2 (vEq.ofF hR hF2) (tEq.refl G s T1) (xEq.refl G X)
              refine z_if_ne (tgt := 77) F dX9_holds_70 (by decide) (fun c5 => ?_) (fun c5 => ?_)
              · rw [if_neg c5]
                refine z_iconst (v := nI 0) F dX9_holds_77 (by decide) ?_
                exact z_iret F dX9_holds_78 rfl (oP.after ((gC.ofF hF1).trans (gC.ofF hF2)) (oP.same hC2))
              · rw [if_pos c5]
                refine z_iconst (v := nI 1) F dX9_holds_73 (by decide) ?_
                refine z_goto (tgt := 78) F dX9_holds_74 (by decide) ?_
                exact z_iret F dX9_holds_78 rfl (oP.after ((gC.ofF hF1).trans (gC.ofF hF2)) (oP.same hC2))
            · exact absurd c4 (by decide)
      · rw [if_neg (by rw [inI_f (Or.inr (Int32.le_iff_toInt_le.mpr (by have h1 := mt Int32.lt_iff_toInt_lt.mpr c3; omega)))]; decide)]
        refine z_iconst (v := (-1)) F dX9_holds_25 (by decide) ?_
        exact z_iret F dX9_holds_26 rfl (oP.same hC)
  · have h := zb_f c
    rw [if_neg h]
    refine z_bipush (v := (-5)) F dX9_holds_10 (by decide) ?_
    exact z_iret F dX9_holds_12 rfl (oP.same hC)
set_option maxRecDepth 100000 in
theorem c_solve (way : Int32) (hR : xR Z G) (hC : rCT Z G V T X s) : zCt Γ mX9_solve 7 193 0 0 [.ref G.x, .int way] (Z, V) (pI (oP Z G V (opSolve G.n s way))) := by
  refine zCt.of [some (.ref G.x), some (.int way)] pn_X9_solve rfl (Nat.le_of_ble_eq_true rfl) rfl (fun κ F => ?_)
  obtain ⟨b0, b1, b2, b3, b4, b5, b6, b7, b8⟩ := hR.1
  obtain ⟨hJ, hS, hA⟩ := hR.2.1
  have hn5 := hR.n5
  have hcs := hC.2.1.2.2.1
  obtain ⟨hRe, hRd, hRs, -, -⟩ := id hR.2.2.2.1
  have hs0 := hRs.1.1
  have he0 := hRe.1.1
  obtain ⟨⟨fd1, fd2, fd3, fd4, fd5, fd6, fd7, fd8, fd9⟩, -, ⟨fc1, fc2, fc3, fc4, fc5, fc6⟩, -⟩ := hR.2.2.2.2
  have hOs := hC.2.2.2.2.1
  have hew : ∀ i k, i < G.n * (G.n + 1) → k < G.n * (G.n + 1) → G.ee i ≠ G.we k := fun i k hi hk e => by have := fd2 i hi; rw [e, fd3 k hk] at this; omega
  have huw : ∀ i k, i < G.n → k < G.n * (G.n + 1) → G.uk i ≠ G.we k := fun i k hi hk e => by have := fd7 i hi; rw [e, fd3 k hk] at this; omega
  have hup : ∀ i, i < G.n → G.uk i ≠ G.pd := fun i hi e => by have := fd7 i hi; rw [e, fd5] at this; omega
  have hx : G.c1 ≠ G.ra ∧ G.c1 ≠ G.co ∧ G.c2 ≠ G.ra ∧ G.c2 ≠ G.co ∧ G.c3 ≠ G.ra ∧ G.c3 ≠ G.co := ⟨fun e => by rw [e] at fc4; omega, fun e => by rw [e] at fc4; omega, fun e => by rw [e] at fc5; omega, fun e => by rw [e] at fc5; omega, fun e => by rw [e] at fc6; omega, fun e => by rw [e] at fc6; omega⟩
  -- the two ways
  have go : ∀ wn : Nat, wn ≤ 1 → zX Γ κ (Z, V) 0 0 (zQ Γ κ (pI (oP Z G V (match (elim wn G.n (G.n + 1) (tm s)).bind (solS G.n) with
      | none => grewF (wV s none)
      | some v => (wV s (some v), nI v.2.1)))) 0 0) 11 [some (.ref G.x), some (.int (nI wn))] [] := by
    intro wn hwn
    refine z_aload_n F dX9_solve_11 rfl ?_
    refine z_getR F dX9_solve_12 gr_X9_61 (by assumption) (by assumption) ?_
    refine z_cVv F (c_forget hC.1 hRs hOs) dX9_solve_15 ml_X9_170 ok_X6_forget hs0 (by decide) rfl rfl rfl (Nat.le_of_ble_eq_true rfl) (by decide) (by decide) (fun S' hS' => ?_)
    obtain ⟨V1, rfl, hK1, hG1, hO1⟩ := hS'
    have hC1 := rCT.solved hR hC hK1 hG1 (fun _ _ => rfl) (fun _ _ => rfl) hO1
    rw [← solve_congr (way := wn) hC1.mEq]
    obtain ⟨o, ho⟩ : ∃ o, o = elim wn G.n (G.n + 1) (mE T G.n G.ee) := ⟨_, rfl⟩
    rw [← ho]
    refine z_aload_n F dX9_solve_18 rfl ?_
    refine z_getR F dX9_solve_19 gr_X9_47 (by assumption) (by assumption) ?_
    refine z_aload_n F dX9_solve_22 rfl ?_
    refine z_getR F dX9_solve_23 gr_X9_39 (by assumption) (by assumption) ?_
    refine z_iload_n F dX9_solve_26 rfl ?_
    refine z_aload_n F dX9_solve_27 rfl ?_
    refine z_getI F dX9_solve_28 gi_X9_21 (by assumption) ?_
    refine z_ti hC1.2.1.1 ?_
    refine z_iconst (v := nI 1) F dX9_solve_31 (by decide) ?_
    refine z_iadd F dX9_solve_32 ?_
    refine z_ti (nI_add _ 1) ?_
    refine z_cVz F (c_run (way := wn) (e := G.n + 1) hK1 hJ hA hS hRe hC1.2.1.2.2.2.2.1 hR.2.2.1.2 hew hwn (Nat.le_refl _)) dX9_solve_33 ml_X9_173 ok_X2_run he0 (by decide) rfl rfl rfl (Nat.le_of_ble_eq_true rfl) (by decide) (by decide) (fun r S' hr => ?_)
    obtain ⟨V2, T2, rfl, hK2, hG2, hT2, hcase⟩ := hr
    have ht2 : tEq G (wV s none) T T2 := tEq.of hR hcs (tS.ok hR hT2)
    rcases hcase with ⟨hno, rfl, h20⟩ | ⟨el, hso, rfl, hOe⟩
    · have hC2 := hC1.view hK2 (vEq.ofE hR hG2 (h20.trans hC1.2.1.2.2.2.2.1.symm)) ht2 (xEq.refl G X)
      rw [ho, show elim wn G.n (G.n + 1) (mE T G.n G.ee) = none from hno]
      refine z_if_eq (tgt := 53) F dX9_solve_36 (by decide) (fun c => ?_) (fun c => ?_)
      · refine z_aload_n F dX9_solve_53 rfl ?_
        refine z_cVi F (c_grew hR hC2) dX9_solve_54 ml_X9_181 ok_X9_grew b0 (by decide) rfl rfl rfl (Nat.le_of_ble_eq_true rfl) (by decide) (by decide) (fun r S' hr => ?_)
        exact z_iret F dX9_solve_57 rfl (oP.after ((gC.ofS hG1).trans (gC.ofE hG2)) hr)
      · exact absurd rfl c
    · have hC2 := hC1.view hK2 (vEq.ofE hR hG2 (hOe.1.1.trans hC1.2.1.2.2.2.2.1.symm)) ht2 (xEq.refl G X)
      rw [ho, show elim wn G.n (G.n + 1) (mE T G.n G.ee) = some el from hso]
      show zX Γ κ (Z, V2) _ _ (zQ Γ κ (pI (oP Z G V (match solS G.n el with
        | none => grewF (wV s none)
        | some v => (wV s (some v), nI v.2.1)))) 0 0) _ _ _
      refine z_if_eq (tgt := 53) F dX9_solve_36 (by decide) (fun c => ?_) (fun c => ?_)
      · exact absurd c (by decide)
      · refine z_aload_n F dX9_solve_39 rfl ?_
        refine z_getR F dX9_solve_40 gr_X9_61 (by assumption) (by assumption) ?_
        refine z_aload_n F dX9_solve_43 rfl ?_
        refine z_getR F dX9_solve_44 gr_X9_47 (by assumption) (by assumption) ?_
        refine z_cVz F (c_fill hK2 hJ hA hS hRe hOe hRs hC2.2.2.2.2.1.1 huw hup hx) dX9_solve_47 ml_X9_177 ok_X6_fill hs0 (by decide) rfl rfl rfl (Nat.le_of_ble_eq_true rfl) (by decide) (by decide) (fun r S' hr => ?_)
        obtain ⟨V3, T3, rfl, hK3, hG3, hT3, rfl, hO3⟩ := hr
        have g1 : ∀ i, i < tc s → T3 (G.nu i) = T2 (G.nu i) := fun i hi => hT3 _ (fun z => by
          have h1 := fd1 i (by omega)
          rcases z with z | ⟨j, hj, z⟩
          · rw [z, fd5] at h1; omega
          · rw [z, fd7 j hj] at h1; omega)
        have g2 : ∀ k, k < G.n * (G.n + 1) → T3 (G.ee k) = T2 (G.ee k) := fun i hi => hT3 _ (fun z => by
          have h1 := fd2 i hi
          rcases z with z | ⟨j, hj, z⟩
          · rw [z, fd5] at h1; omega
          · rw [z, fd7 j hj] at h1; omega)
        have hC3 := rCT.solved hR hC2 hK3 hG3 g1 g2 hO3
        have hg := ((gC.ofS hG1).trans (gC.ofE hG2)).trans (gC.ofS hG3)
        cases hsol : solS G.n el with
        | none =>
          rw [hsol] at hC3
          refine z_if_ne (tgt := 58) F dX9_solve_50 (by decide) (fun c2 => ?_) (fun c2 => ?_)
          · exact absurd rfl c2
          · refine z_aload_n F dX9_solve_53 rfl ?_
            refine z_cVi F (c_grew hR hC3) dX9_solve_54 ml_X9_181 ok_X9_grew b0 (by decide) rfl rfl rfl (Nat.le_of_ble_eq_true rfl) (by decide) (by decide) (fun r S' hr => ?_)
            exact z_iret F dX9_solve_57 rfl (oP.after hg hr)
        | some v =>
          rw [hsol] at hC3 hO3
          have q2 := (hO3.2.2 v rfl).2.1
          refine z_if_ne (tgt := 58) F dX9_solve_50 (by decide) (fun c2 => ?_) (fun c2 => ?_)
          · refine z_aload_n F dX9_solve_58 rfl ?_
            refine z_getR F dX9_solve_59 gr_X9_61 (by assumption) (by assumption) ?_
            refine z_getI F dX9_solve_62 gi_X9_184 (by assumption) ?_
            refine z_ti q2 ?_
            exact z_iret F dX9_solve_65 rfl (oP.after hg (oP.same hC3))
          · exact absurd c2 (show ¬ zb true = 0 by decide)
  unfold opSolve
  refine z_iload_n F dX9_solve_0 rfl ?_
  refine z_if_eq (tgt := 11) F dX9_solve_1 (by decide) (fun c => ?_) (fun c => ?_)
  · have h : way = 0 := c
    rw [if_pos (Or.inl h)]
    subst h
    exact go 0 (by decide)
  · refine z_iload_n F dX9_solve_4 rfl ?_
    refine z_iconst (v := nI 1) F dX9_solve_5 (by decide) ?_
    refine z_icmp_eq (tgt := 11) F dX9_solve_6 (by decide) (fun c2 => ?_) (fun c2 => ?_)
    · have h : way = nI 1 := c2
      subst h
      rw [if_pos (show nI 1 = 0 ∨ nI 1 = 1 from Or.inr rfl)]
      exact go 1 (by decide)
    · rw [if_neg (fun z => by rcases z with z | z; exact c z; exact c2 z)]
      refine z_iconst (v := (-1)) F dX9_solve_9 (by decide) ?_
      exact z_iret F dX9_solve_10 rfl (oP.same hC)
theorem keepO_c {b : Bool} {o : Option Fr} (x : Fr) (h : (o = none ∧ b = false) ∨ ∃ y, o = some y ∧ b = true ∧ x = y) : (if b = true then keepF s x else grewF s) = keepO s o := by
  rcases h with ⟨rfl, rfl⟩ | ⟨y, rfl, rfl, rfl⟩
  · rfl
  · rfl
set_option maxRecDepth 100000 in
theorem c_determinant (way : Int32) (hR : xR Z G) (hC : rCT Z G V T X s) : zCt Γ mX9_determinant 7 193 0 0 [.ref G.x, .int way] (Z, V) (pI (oP Z G V (opDet G.n s way))) := by
  refine zCt.of [some (.ref G.x), some (.int way), none] pn_X9_determinant rfl (Nat.le_of_ble_eq_true rfl) rfl (fun κ F => ?_)
  obtain ⟨b0, b1, b2, b3, b4, b5, b6, b7, b8⟩ := hR.1
  obtain ⟨hJ, hS, hA⟩ := hR.2.1
  have hn5 := hR.n5
  have hcs := hC.2.1.2.2.1
  obtain ⟨hRe, hRd, hRs, -, -⟩ := id hR.2.2.2.1
  have he0 := hRe.1.1
  have hd0 := hRd.1.1
  obtain ⟨⟨fd1, fd2, fd3, fd4, fd5, fd6, fd7, fd8, fd9⟩, -, -, fdn, -⟩ := hR.2.2.2.2
  have hew : ∀ i k, i < G.n * (G.n + 1) → k < G.n * (G.n + 1) → G.ee i ≠ G.we k := fun i k hi hk e => by have := fd2 i hi; rw [e, fd3 k hk] at this; omega
  unfold opDet
  have bad : ¬ inI way 3 = true → zX Γ κ (Z, V) 0 0 (zQ Γ κ (pI (oP Z G V (if inI way 3 = true then (if full s = true then (s, -4) else keepO s (if way = 2 then detO G.n (tm s) else (elim (an way) G.n G.n (tm s)).bind (detP G.n))) else (s, -1)))) 0 0) 9 [some (.ref G.x), some (.int way), none] [] := by
    intro h
    rw [if_neg h]
    refine z_iconst (v := (-1)) F dX9_determinant_9 (by decide) ?_
    exact z_iret F dX9_determinant_10 rfl (oP.same hC)
  refine z_iload_n F dX9_determinant_0 rfl ?_
  refine z_if_lt (tgt := 9) F dX9_determinant_1 (by decide) (fun c => ?_) (fun c => ?_)
  · exact bad (by rw [inI_f (Or.inl c)]; decide)
  · refine z_iload_n F dX9_determinant_4 rfl ?_
    refine z_iconst (v := nI 2) F dX9_determinant_5 (by decide) ?_
    refine z_icmp_le (tgt := 11) F dX9_determinant_6 (by decide) (fun c2 => ?_) (fun c2 => ?_)
    · have hin : inI way 3 = true := inI_of c (fun z => by have h1 := Int32.le_iff_toInt_le.mp c2; have h2 := Int32.le_iff_toInt_le.mp z; rw [nI_toInt (by decide)] at h1 h2; omega)
      rw [if_pos hin]
      obtain ⟨wn, hwn, rfl, ewn⟩ := inI_t hin (by decide)
      rw [ewn]
      refine z_aload_n F dX9_determinant_11 rfl ?_
      refine z_cVz F (c_isFull hR hC) dX9_determinant_12 ml_X9_81 ok_X9_isFull b0 (by decide) rfl rfl rfl (Nat.le_of_ble_eq_true rfl) (by decide) (by decide) (fun r S' hr => ?_)
      obtain ⟨rfl, rfl⟩ := hr
      refine z_if_eq (tgt := 21) F dX9_determinant_15 (by decide) (fun c3 => ?_) (fun c3 => ?_)
      · have h3 := zb_f c3
        have h40 := full_f h3
        rw [if_neg h3]
        obtain ⟨m1, m2, m3, m4⟩ := hR.num h40
        have i2 := hC.2.1.2.1
        have fq := fd1 (tc s) h40
        have hqw : ∀ k, k < G.n * (G.n + 1) → G.nu (tc s) ≠ G.we k := fun k hk e => by rw [e, fd3 k hk] at fq; omega
        refine z_aload_n F dX9_determinant_21 rfl ?_
        refine z_getR F dX9_determinant_22 gr_X9_35 (by assumption) (by assumption) ?_
        refine z_aload_n F dX9_determinant_25 rfl ?_
        refine z_getI F dX9_determinant_26 gi_X9_85 (by assumption) ?_
        refine z_ti i2 ?_
        refine z_aald F dX9_determinant_29 (by assumption) m1 m2 ?_
        refine z_astore_n_2 F dX9_determinant_30 rfl ?_
        refine z_iload_n F dX9_determinant_31 rfl ?_
        refine z_iconst (v := nI 2) F dX9_determinant_32 (by decide) ?_
        refine z_icmp_ne (tgt := 53) F dX9_determinant_33 (by decide) (fun c4 => ?_) (fun c4 => ?_)
        · have hw2 : ¬ wn = 2 := fun z => c4 (by rw [z])
          rw [if_neg (show ¬ nI wn = 2 from fun z => hw2 ((nI_eq (b := 2) (by omega) (by decide)).mp z)), ← det_congr (way := wn) hn5.1 hC.mEq]
          refine z_aload_n F dX9_determinant_53 rfl ?_
          refine z_aload_n F dX9_determinant_54 rfl ?_
          refine z_getR F dX9_determinant_55 gr_X9_47 (by assumption) (by assumption) ?_
          refine z_aload_n F dX9_determinant_58 rfl ?_
          refine z_getR F dX9_determinant_59 gr_X9_39 (by assumption) (by assumption) ?_
          refine z_iload_n F dX9_determinant_62 rfl ?_
          refine z_aload_n F dX9_determinant_63 rfl ?_
          refine z_getI F dX9_determinant_64 gi_X9_21 (by assumption) ?_
          refine z_ti hC.2.1.1 ?_
          refine z_cVz F (c_run (way := wn) (e := G.n) hC.1 hJ hA hS hRe hC.2.1.2.2.2.2.1 hR.2.2.1.2 hew (by omega) (by omega)) dX9_determinant_67 ml_X9_173 ok_X2_run he0 (by decide) rfl rfl rfl (Nat.le_of_ble_eq_true rfl) (by decide) (by decide) (fun r S' hr => ?_)
          obtain ⟨V2, T2, rfl, hK2, hG2, hT2, hcase⟩ := hr
          have ht2 : tEq G s T T2 := tEq.of hR hcs (tS.ok hR hT2)
          rcases hcase with ⟨hno, rfl, h20⟩ | ⟨el, hso, rfl, hOe⟩
          · have hC2 := hC.view hK2 (vEq.ofE hR hG2 (h20.trans hC.2.1.2.2.2.2.1.symm)) ht2 (xEq.refl G X)
            rw [show elim wn G.n G.n (mE T G.n G.ee) = none from hno]
            refine z_if_eq (tgt := 92) F dX9_determinant_70 (by decide) (fun c5 => ?_) (fun c5 => ?_)
            · refine z_iconst (v := nI 0) F dX9_determinant_92 (by decide) ?_
              refine z_cVi F (c_keep (b := false) hR hC2 (fun h => by cases h)) dX9_determinant_93 ml_X9_92 ok_X9_keep b0 (by decide) rfl rfl rfl (Nat.le_of_ble_eq_true rfl) (by decide) (by decide) (fun r S' hr => ?_)
              exact z_iret F dX9_determinant_96 rfl (oP.after (gC.ofE hG2) hr)
            · exact absurd rfl c5
          · have hC2 := hC.view hK2 (vEq.ofE hR hG2 (hOe.1.1.trans hC.2.1.2.2.2.2.1.symm)) ht2 (xEq.refl G X)
            rw [show elim wn G.n G.n (mE T G.n G.ee) = some el from hso]
            show zX Γ κ (Z, V2) _ _ (zQ Γ κ (pI (oP Z G V (keepO s (detP G.n el)))) 0 0) _ _ _
            refine z_if_eq (tgt := 92) F dX9_determinant_70 (by decide) (fun c5 => ?_) (fun c5 => ?_)
            · exact absurd c5 (by decide)
            · refine z_aload_n F dX9_determinant_73 rfl ?_
              refine z_getR F dX9_determinant_74 gr_X9_54 (by assumption) (by assumption) ?_
              refine z_aload_n F dX9_determinant_77 rfl ?_
              refine z_getR F dX9_determinant_78 gr_X9_47 (by assumption) (by assumption) ?_
              refine z_aload_n F dX9_determinant_81 rfl ?_
              refine z_cVz F (c_multiplyPivots hK2 hJ hA hS hRe hOe hRd hC2.2.1.2.2.2.2.2 m3 hqw) dX9_determinant_82 ml_X9_220 ok_X1_multiplyPivots hd0 (by decide) rfl rfl rfl (Nat.le_of_ble_eq_true rfl) (by decide) (by decide) (fun r S' hr => ?_)
              obtain ⟨V3, T3, rfl, hK3, hF3, hT3, hcase⟩ := hr
              have ht3 : tEq G s T2 T3 := by
                refine ⟨fun i hi => hT3 _ (fun z => ?_), fun k hk => hT3 _ (fun z => ?_), fun j hj => hT3 _ (fun z => ?_)⟩
                · have := fdn i (tc s) (by omega) h40 z
                  omega
                · have h1 := fd2 k hk
                  rw [z, fq] at h1
                  omega
                · have h1 := fd7 j hj
                  rw [z, fq] at h1
                  omega
              have hC3 := hC2.view hK3 (vEq.ofF hR hF3) ht3 (xEq.refl G X)
              have hg := (gC.ofE hG2).trans (gC.ofF (G := G) hF3)
              rcases hcase with ⟨hno, rfl⟩ | ⟨x, hso2, rfl, hx⟩
              · rw [hno]
                refine z_if_eq (tgt := 92) F dX9_determinant_85 (by decide) (fun c6 => ?_) (fun c6 => ?_)
                · refine z_iconst (v := nI 0) F dX9_determinant_92 (by decide) ?_
                  refine z_cVi F (c_keep (b := false) hR hC3 (fun h => by cases h)) dX9_determinant_93 ml_X9_92 ok_X9_keep b0 (by decide) rfl rfl rfl (Nat.le_of_ble_eq_true rfl) (by decide) (by decide) (fun r S' hr => ?_)
                  exact z_iret F dX9_determinant_96 rfl (oP.after hg hr)
                · exact absurd rfl c6
              · rw [hso2]
                refine z_if_eq (tgt := 92) F dX9_determinant_85 (by decide) (fun c6 => ?_) (fun c6 => ?_)
                · exact absurd c6 (by decide)
                · refine z_iconst (v := nI 1) F dX9_determinant_88 (by decide) ?_
                  refine z_goto (tgt := 93) F dX9_determinant_89 (by decide) ?_
                  refine z_cVi F (c_keep (b := true) hR hC3 (fun _ => h40)) dX9_determinant_93 ml_X9_92 ok_X9_keep b0 (by decide) rfl rfl rfl (Nat.le_of_ble_eq_true rfl) (by decide) (by decide) (fun r S' hr => ?_)
                  rw [if_pos rfl, hx] at hr
                  exact z_iret F dX9_determinant_96 rfl (oP.after hg hr)
        · have hw2 : wn = 2 := (nI_eq (by omega) (by decide)).mp c4
          subst hw2
          rw [if_pos (show nI 2 = 2 from rfl), ← detO_congr hn5.1 hC.mEq]
          have hee : ∀ k, k < G.n * (G.n + 1) → G.ee k ≠ G.nu (tc s) ∧ G.ee k ≠ G.pr := fun k hk => ⟨fun e => by have := fd2 k hk; rw [e, fq] at this; omega, fun e => by have := fd2 k hk; rw [e, fd6] at this; omega⟩
          have hqp : G.nu (tc s) ≠ G.pr := fun e => by rw [e, fd6] at fq; omega
          refine z_aload_n F dX9_determinant_36 rfl ?_
          refine z_aload_n F dX9_determinant_37 rfl ?_
          refine z_getR F dX9_determinant_38 gr_X9_54 (by assumption) (by assumption) ?_
          refine z_aload_n F dX9_determinant_41 rfl ?_
          refine z_getR F dX9_determinant_42 gr_X9_39 (by assumption) (by assumption) ?_
          refine z_aload_n F dX9_determinant_45 rfl ?_
          refine z_cVz F (c_addOrders hC.1 hJ hA hS hRd hC.2.1.2.2.2.2.2 hR.2.2.1.2 m3 hqp hee) dX9_determinant_46 ml_X9_216 ok_X1_addOrders hd0 (by decide) rfl rfl rfl (Nat.le_of_ble_eq_true rfl) (by decide) (by decide) (fun r S' hr => ?_)
          obtain ⟨V3, T3, rfl, hK3, hG3, hT3, hcase⟩ := hr
          have ht3 : tEq G s T T3 := by
            refine ⟨fun i hi => hT3 _ (fun z => ?_), fun k hk => hT3 _ (fun z => ?_), fun j hj => hT3 _ (fun z => ?_)⟩
            · rcases z with z | z
              · have := fdn i (tc s) (by omega) h40 z
                omega
              · have h1 := fd1 i (by omega)
                rw [z, fd6] at h1
                omega
            · exact (hee k hk).1 (by rcases z with z | z; exact z; exact absurd z (hee k hk).2)
            · have h1 := fd7 j hj
              rcases z with z | z
              · rw [z, fq] at h1; omega
              · rw [z, fd6] at h1; omega
          have hC3 := hC.view hK3 (vEq.ofT hR hG3) ht3 (xEq.refl G X)
          refine z_cVi F (c_keep hR hC3 (fun _ => h40)) dX9_determinant_49 ml_X9_92 ok_X9_keep b0 (by decide) rfl rfl rfl (Nat.le_of_ble_eq_true rfl) (by decide) (by decide) (fun r2 S' hr2 => ?_)
          rw [keepO_c (o := detO G.n (mE T G.n G.ee)) _ (by rcases hcase with ⟨h1, h2⟩ | ⟨x, h1, h2, h3⟩; exact Or.inl ⟨h1, h2⟩; exact Or.inr ⟨x, h1, h2, h3⟩)] at hr2
          exact z_iret F dX9_determinant_52 rfl (oP.after (gC.ofT hG3) hr2)
      · have h3 := zb_t c3
        rw [if_pos h3]
        refine z_bipush (v := (-4)) F dX9_determinant_18 (by decide) ?_
        exact z_iret F dX9_determinant_20 rfl (oP.same hC)
    · exact bad (by rw [inI_f (Or.inr (Int32.le_iff_toInt_le.mpr (by have h1 := mt Int32.le_iff_toInt_le.mpr c2; rw [nI_toInt (by decide)] at h1 ⊢; omega)))]; decide)
end ROWS5
