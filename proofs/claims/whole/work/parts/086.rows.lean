/-! ===== FractionRows: rests, decimals, count, clear ===== -/
theorem isPrB_t {x : Int32} (h : isPrB (an x) = true) : ∃ p, 2 ≤ p ∧ p < 2147483648 ∧ x = nI p ∧ an x = p := by
  have h2 : ¬ an x < 2 := fun z => by unfold isPrB at h; rw [if_pos z] at h; cases h
  obtain ⟨j, hj, rfl⟩ := nI_of (x := x) (fun z => h2 (by
    have h1 := Int32.lt_iff_toInt_lt.mp z
    show x.toInt.toNat < 2
    have e : (0 : Int32).toInt = 0 := rfl
    omega))
  have e : an (nI j) = j := nI_clamp hj
  exact ⟨j, by omega, hj, rfl, e⟩
section ROWS6
variable {Γ : Gm} {Z : Hz} {G : Ga} {V : Hv} {T : Nat → Fr} {X : Nat → Nat} {s : St}
set_option maxRecDepth 100000 in
theorem c_rest (a p : Int32) (hR : xR Z G) (hC : rCT Z G V T X s) : zCt Γ mX9_rest 3 74 0 0 [.ref G.x, .int a, .int p] (Z, V) (pI (oP Z G V (s, opRest s a p))) := by
  refine zCt.of [some (.ref G.x), some (.int a), some (.int p), none, none, none] pn_X9_rest rfl (Nat.le_of_ble_eq_true rfl) rfl (fun κ F => ?_)
  obtain ⟨b0, b1, b2, -⟩ := hR.1
  obtain ⟨hJ, hS, hA⟩ := hR.2.1
  have hcs := hC.2.1.2.2.1
  have bad : ¬ (isN s a && isPrB (an p)) = true → zX Γ κ (Z, V) 0 0 (zQ Γ κ (pI (oP Z G V (s, opRest s a p))) 0 0) 15 [some (.ref G.x), some (.int a), some (.int p), none, none, none] [] := by
    intro h
    unfold opRest
    rw [if_neg h]
    refine z_iconst (v := (-1)) F dX9_rest_15 (by decide) ?_
    exact z_iret F dX9_rest_16 rfl (oP.same hC)
  refine z_aload_n F dX9_rest_0 rfl ?_
  refine z_iload_n F dX9_rest_1 rfl ?_
  refine z_cVz F (c_isNumber a hR hC) dX9_rest_2 ml_X9_96 ok_X9_isNumber b0 (by decide) rfl rfl rfl (Nat.le_of_ble_eq_true rfl) (by decide) (by decide) (fun r S' hr => ?_)
  obtain ⟨rfl, rfl⟩ := hr
  refine z_if_eq (tgt := 15) F dX9_rest_5 (by decide) (fun c => ?_) (fun c => ?_)
  · have h := (zb_eq0 _).mp c
    exact bad (by rw [h]; simp)
  · have h := zb_t c
    refine z_iload_n F dX9_rest_8 rfl ?_
    refine z_cSz F (c_isPrime p) dX9_rest_9 ml_X9_224 ok_X5_isPrime rfl rfl rfl (Nat.le_of_ble_eq_true rfl) (by decide) (by decide) (fun r S' hr => ?_)
    obtain ⟨rfl, rfl⟩ := hr
    refine z_if_ne (tgt := 17) F dX9_rest_12 (by decide) (fun c2 => ?_) (fun c2 => ?_)
    · have h2 := zb_t c2
      unfold opRest
      rw [if_pos (by rw [h, h2]; rfl)]
      obtain ⟨ja, hja, rfl, eja⟩ := isN_t h hcs
      obtain ⟨pn, hp2, hp, rfl, epn⟩ := isPrB_t h2
      obtain ⟨pa1, pa2, pa3, pa4⟩ := hR.num (show ja < 40 by omega)
      rw [eja, epn]
      have eT := hC.2.2.1 ja hja
      obtain ⟨x, hx⟩ : ∃ x, x = tn s ja := ⟨_, rfl⟩
      rw [← hx] at eT ⊢
      obtain ⟨f1, f2, f3, f4, f5⟩ := (hS.1 _ pa3).1
      obtain ⟨k1, -, -, ⟨gu, hu, -⟩, gv, hv, -⟩ := hC.1.whole hS pa3
      rw [eT] at k1
      have wu : gW Z G.uo G.vo G.w T X (G.uo (G.nu ja)) x.2.1 := Or.inr ⟨_, pa3, Or.inl ⟨rfl, by rw [eT]⟩⟩
      have wv : gW Z G.uo G.vo G.w T X (G.vo (G.nu ja)) x.2.2 := Or.inr ⟨_, pa3, Or.inr ⟨rfl, by rw [eT]⟩⟩
      have hp0 : 0 < pn := by omega
      have hlt := Nat.mod_lt x.2.2 hp0
      have hut := Nat.mod_lt x.2.1 hp0
      have hp64 : (nI pn).toInt64 = lN pn := nI_l (by omega)
      have hpne : ¬ lN pn = 0 := fun z => absurd ((pk_lEQ (a := pn) (b := 0) (by omega) (by decide)).mp z) (by omega)
      refine z_aload_n F dX9_rest_17 rfl ?_
      refine z_getR F dX9_rest_18 gr_X9_35 (by assumption) (by assumption) ?_
      refine z_iload_n F dX9_rest_21 rfl ?_
      refine z_aald F dX9_rest_22 (by assumption) pa1 pa2 ?_
      refine z_getR F dX9_rest_23 gr_X9_134 (by assumption) (by assumption) ?_
      refine z_iload_n F dX9_rest_26 rfl ?_
      refine z_cVi F (K_restBy hC.1 hS wv hp0 hp) dX9_rest_27 ml_X9_229 ok_X8_restBy hv.1 (by decide) rfl rfl rfl (Nat.le_of_ble_eq_true rfl) (by decide) (by decide) (fun r S' hr => ?_)
      obtain ⟨rfl, rfl⟩ := hr
      refine z_istore_n_3 F dX9_rest_30 rfl ?_
      refine z_iload_n F dX9_rest_31 rfl ?_
      refine z_if_ne (tgt := 38) F dX9_rest_32 (by decide) (fun c3 => ?_) (fun c3 => ?_)
      · have h3 : ¬ x.2.2 % pn = 0 := fun z => c3 ((nI_ne0' (by omega)).mpr z)
        rw [if_neg h3]
        refine z_aload_n F dX9_rest_38 rfl ?_
        refine z_getR F dX9_rest_39 gr_X9_35 (by assumption) (by assumption) ?_
        refine z_iload_n F dX9_rest_42 rfl ?_
        refine z_aald F dX9_rest_43 (by assumption) pa1 pa2 ?_
        refine z_getR F dX9_rest_44 gr_X9_125 (by assumption) (by assumption) ?_
        refine z_iload_n F dX9_rest_47 rfl ?_
        refine z_cVi F (K_restBy hC.1 hS wu hp0 hp) dX9_rest_48 ml_X9_229 ok_X8_restBy hu.1 (by decide) rfl rfl rfl (Nat.le_of_ble_eq_true rfl) (by decide) (by decide) (fun r S' hr => ?_)
        obtain ⟨rfl, rfl⟩ := hr
        refine z_istore_4 F dX9_rest_51 rfl ?_
        refine z_iload F dX9_rest_53 rfl ?_
        refine z_i2l F dX9_rest_55 ?_
        refine z_tl (nI_l (by omega)) ?_
        refine z_iload_n F dX9_rest_56 rfl ?_
        refine z_iload_n F dX9_rest_57 rfl ?_
        refine z_cSl F (c_inverse hlt (by omega) hp) dX9_rest_58 ml_X9_233 ok_X5_inverse rfl rfl rfl (Nat.le_of_ble_eq_true rfl) (by decide) (by decide) (fun r S' hr => ?_)
        obtain ⟨rfl, rfl⟩ := hr
        have hin := Nat.mod_lt ((x.2.2 % pn) ^ (pn - 2)) hp0
        have hres : x.2.1 % pn * ((x.2.2 % pn) ^ (pn - 2) % pn) % pn = restF x pn := rfl
        have hrl : restF x pn < pn := Nat.mod_lt _ hp0
        refine z_lmul F dX9_rest_61 ?_
        refine z_tl (lN_mul _ _) ?_
        refine z_iload_n F dX9_rest_62 rfl ?_
        refine z_i2l F dX9_rest_63 ?_
        refine z_tl hp64 ?_
        refine z_lrem F dX9_rest_64 hpne ?_
        refine z_tl (pk_lRem (mulmod_lt hut hin hp) hp0 (by omega)) ?_
        refine z_l2i F dX9_rest_65 ?_
        refine z_ti (lN_i _) ?_
        rw [hres]
        generalize restF x pn = rr at hrl ⊢
        refine z_istore_5 F dX9_rest_66 rfl ?_
        refine z_aload_n F dX9_rest_68 rfl ?_
        refine z_getR F dX9_rest_69 gr_X9_35 (by assumption) (by assumption) ?_
        refine z_iload_n F dX9_rest_72 rfl ?_
        refine z_aald F dX9_rest_73 (by assumption) pa1 pa2 ?_
        refine z_getI F dX9_rest_74 gi_X9_121 (by assumption) ?_
        refine z_ti k1 ?_
        refine z_if_eq (tgt := 92) F dX9_rest_77 (by decide) (fun c4 => ?_) (fun c4 => ?_)
        · rw [if_neg (fun z => zb_f c4 z.1)]
          refine z_iload F dX9_rest_92 rfl ?_
          exact z_iret F dX9_rest_94 rfl (oP.same hC)
        · refine z_iload F dX9_rest_80 rfl ?_
          refine z_if_eq (tgt := 92) F dX9_rest_82 (by decide) (fun c5 => ?_) (fun c5 => ?_)
          · have h5 : rr = 0 := (nI_ne0' (by omega)).mp c5
            rw [if_neg (fun z => z.2 h5)]
            refine z_iload F dX9_rest_92 rfl ?_
            exact z_iret F dX9_rest_94 rfl (oP.same hC)
          · have h5 : ¬ rr = 0 := fun z => c5 ((nI_ne0' (by omega)).mpr z)
            rw [if_pos ⟨zb_t c4, h5⟩]
            refine z_iload_n F dX9_rest_85 rfl ?_
            refine z_iload F dX9_rest_86 rfl ?_
            refine z_isub F dX9_rest_88 ?_
            refine z_ti (pk_sub (by omega)) ?_
            refine z_goto (tgt := 94) F dX9_rest_89 (by decide) ?_
            exact z_iret F dX9_rest_94 rfl (oP.same hC)
      · have h3 : x.2.2 % pn = 0 := (nI_ne0' (by omega)).mp c3
        rw [if_pos h3]
        refine z_bipush (v := (-2)) F dX9_rest_35 (by decide) ?_
        exact z_iret F dX9_rest_37 rfl (oP.same hC)
    · have h2 := (zb_eq0 _).mp c2
      exact bad (by rw [h2, Bool.and_false]; decide)
theorem vEq.ofJ4 {V1 : Hv} (hR : xR Z G) (hG : gJ Z G.J V V1) : (∀ k, vI V1 8 k G.x = vI V 8 k G.x) ∧ vI V1 2 0 G.E = vI V 2 0 G.E ∧ vI V1 1 0 G.D = vI V 1 0 G.D ∧ (∀ k, vI V1 5 k G.SO = vI V 5 k G.SO) ∧ (∀ k, vI V1 6 k G.Y = vI V 6 k G.Y) ∧ vA V1 G.c1 = vA V G.c1 ∧ vA V1 G.c2 = vA V G.c2 ∧ vA V1 G.c3 = vA V G.c3 ∧ vA V1 G.ba = vA V G.ba := by
  have ni : ∀ {ci k a : Nat}, ci ≠ 7 → ci ≠ 3 → ci ≠ 4 → vI V1 ci k a = vI V ci k a := fun h7 h3 h4 => hG.1 _ _ _ (fun z => by rcases z with (z | z) | z; exact h7 z.1; exact h3 z.1; exact h4 z.1)
  obtain ⟨-, -, -, ⟨-, -, hs, -, ht⟩, -⟩ := hR
  have hc := hs.2.2.2.2.2.2
  exact ⟨fun k => ni (by decide) (by decide) (by decide), ni (by decide) (by decide) (by decide), ni (by decide) (by decide) (by decide), fun k => ni (by decide) (by decide) (by decide), fun k => ni (by decide) (by decide) (by decide), hG.2.1 _ hc.1, hG.2.1 _ hc.2.1, hG.2.1 _ hc.2.2.1, hG.2.1 _ (npA10 ht.2.2.2.1)⟩
theorem gC.ofJ {V1 : Hv} (hG : gJ Z G.J V V1) : gC Z G V V1 := hG.mono (fun ci k a z => by rcases z with (z | z) | z <;> (rw [z.1]; decide)) (fun a z => Or.inl z)
/-- what is JOINED changes -/
theorem rCT.joint {V1 : Hv} {X1 : Nat → Nat} {j : Nat × Nat × Int32} (hR : xR Z G) (hC : rCT Z G V T X s) (hK : KS Z G.uo G.vo G.w V1 T X1) (hG : gJ Z G.J V V1) (hX : xN G.jw X X1) (h1 : X1 (G.jw 1) = j.1) (h2 : X1 (G.jw 2) = j.2.1) (h3 : vI V1 4 9 G.J = j.2.2) (h4 : j.1 < j.2.1) (h5 : j.2.1 < 4294967296 ^ 6) : rCT Z G V1 T X1 (wJ s j) := by
  obtain ⟨-, ⟨i1, i2, i3, i4, i5, i6⟩, hn, hm, ⟨s1, s2, s3⟩, -, hy, y1, y2, y3⟩ := hC
  obtain ⟨v1, v2, v3, v4, v6, v7, v8, v9, v10⟩ := vEq.ofJ4 hR hG
  obtain ⟨-, ⟨k1, k2, -, -⟩, -⟩ := hR.2.2.2.2
  refine ⟨hK, ⟨(v1 0).trans i1, (v1 9).trans i2, i3, (v1 10).trans i4, v2.trans i5, v3.trans i6⟩, hn, hm, ⟨(v4 0).trans s1, (v4 8).trans s2, fun x hx9 => ?_⟩, ⟨h1, h2, h3, h4, h5⟩, ?_, (v6 5).trans y1, fun i hi => by rw [v10]; exact y2 i hi, y3⟩
  · obtain ⟨q1, q2, q3, q4, q5⟩ := s3 x hx9
    exact ⟨(v4 9).trans q1, (v4 10).trans q2, q3, fun p hp => by rw [v7, v8, v9]; exact q4 p hp, q5⟩
  · rw [hX G.t1 (fun k ha hb e => by rw [e, k1 k ha hb] at k2; omega)]
    exact hy
theorem jn_lt {jn jm p r : Nat} (h : jn < jm) (hp : 0 < p) : jn + jm * jnK jn jm p r < jm * p := by
  have hk : jnK jn jm p r < p := Nat.mod_lt _ hp
  have h1 : jm * (jnK jn jm p r + 1) ≤ jm * p := Nat.mul_le_mul_left jm hk
  rw [Nat.mul_add, Nat.mul_one] at h1
  omega
set_option maxRecDepth 100000 in
theorem c_meet (p r : Int32) (hR : xR Z G) (hC : rCT Z G V T X s) : zCt Γ mX9_meet 3 83 0 0 [.ref G.x, .int p, .int r] (Z, V) (pI (oP Z G V (opMeet s p r))) := by
  refine zCt.of [some (.ref G.x), some (.int p), some (.int r)] pn_X9_meet rfl (Nat.le_of_ble_eq_true rfl) rfl (fun κ F => ?_)
  obtain ⟨b0, b1, b2, b3, b4, b5, b6, b7, b8⟩ := hR.1
  obtain ⟨hJ, hS, hA⟩ := hR.2.1
  have hRj := hR.2.2.2.1.2.2.2.1
  have hj0 := hRj.1
  have bad : ¬ (isPrB (an p) && inI r (an p)) = true → zX Γ κ (Z, V) 0 0 (zQ Γ κ (pI (oP Z G V (opMeet s p r))) 0 0) 16 [some (.ref G.x), some (.int p), some (.int r)] [] := by
    intro h
    unfold opMeet
    rw [if_neg h]
    refine z_iconst (v := (-1)) F dX9_meet_16 (by decide) ?_
    exact z_iret F dX9_meet_17 rfl (oP.same hC)
  refine z_iload_n F dX9_meet_0 rfl ?_
  refine z_cSz F (c_isPrime p) dX9_meet_1 ml_X9_224 ok_X5_isPrime rfl rfl rfl (Nat.le_of_ble_eq_true rfl) (by decide) (by decide) (fun r' S' hr => ?_)
  obtain ⟨rfl, rfl⟩ := hr
  refine z_if_eq (tgt := 16) F dX9_meet_4 (by decide) (fun c => ?_) (fun c => ?_)
  · have h := (zb_eq0 _).mp c
    exact bad (by rw [h]; simp)
  · have h := zb_t c
    obtain ⟨pn, hp2, hp, rfl, epn⟩ := isPrB_t h
    refine z_iload_n F dX9_meet_7 rfl ?_
    refine z_if_lt (tgt := 16) F dX9_meet_8 (by decide) (fun c2 => ?_) (fun c2 => ?_)
    · exact bad (by rw [inI_f (Or.inl c2), Bool.and_false]; decide)
    · refine z_iload_n F dX9_meet_11 rfl ?_
      refine z_iload_n F dX9_meet_12 rfl ?_
      refine z_icmp_lt (tgt := 18) F dX9_meet_13 (by decide) (fun c3 => ?_) (fun c3 => ?_)
      · have hin : inI r pn = true := inI_of c2 (fun z => by have h1 := Int32.lt_iff_toInt_lt.mp c3; have h2 := Int32.le_iff_toInt_le.mp z; omega)
        unfold opMeet
        rw [epn, if_pos (by rw [← epn, h, epn, hin]; rfl)]
        obtain ⟨rn, hrn, rfl, ern⟩ := inI_t hin hp
        rw [ern]
        obtain ⟨j1, j2, j3, j4, j5⟩ := hC.2.2.2.2.2.1
        refine z_aload_n F dX9_meet_18 rfl ?_
        refine z_getR F dX9_meet_19 gr_X9_70 (by assumption) (by assumption) ?_
        refine z_iload_n F dX9_meet_22 rfl ?_
        refine z_cVz F (c_has hC.1 hS hRj (p := pn) (by omega) hp) dX9_meet_23 ml_X9_237 ok_X4_has hj0 (by decide) rfl rfl rfl (Nat.le_of_ble_eq_true rfl) (by decide) (by decide) (fun r' S' hr => ?_)
        obtain ⟨rfl, rfl⟩ := hr
        rw [j2]
        refine z_if_eq (tgt := 32) F dX9_meet_26 (by decide) (fun c4 => ?_) (fun c4 => ?_)
        · rw [if_neg (dz_f c4)]
          have hm6 : X (G.jw 2) < 4294967296 ^ 6 := by rw [j2]; exact j5
          have hn6 : X (G.jw 1) < 4294967296 ^ 6 := by rw [j1]; exact Nat.lt_trans j4 j5
          refine z_aload_n F dX9_meet_32 rfl ?_
          refine z_getR F dX9_meet_33 gr_X9_70 (by assumption) (by assumption) ?_
          refine z_iload_n F dX9_meet_36 rfl ?_
          refine z_iload_n F dX9_meet_37 rfl ?_
          refine z_cVz F (c_join hC.1 hJ hS hRj (by omega) hp hrn hm6 hn6) dX9_meet_38 ml_X9_240 ok_X4_join hj0 (by decide) rfl rfl rfl (Nat.le_of_ble_eq_true rfl) (by decide) (by decide) (fun b S' hr => ?_)
          obtain ⟨V1, X1, rfl, hK1, hG1, hX1, hb, hbf, hbt⟩ := hr
          rw [j1, j2] at hbf hbt
          rw [j2] at hb
          cases b with
          | false =>
            obtain ⟨e1, e2, e3⟩ := hbf rfl
            rw [if_neg (of_decide_eq_false hb.symm)]
            have hC1 := rCT.joint (j := tj s) hR hC hK1 hG1 hX1 e1 e2 (e3.trans j3) j4 j5
            refine z_if_eq (tgt := 54) F dX9_meet_41 (by decide) (fun c5 => ?_) (fun c5 => ?_)
            · refine z_aload_n F dX9_meet_54 rfl ?_
              refine z_cVi F (c_grew hR hC1) dX9_meet_55 ml_X9_181 ok_X9_grew b0 (by decide) rfl rfl rfl (Nat.le_of_ble_eq_true rfl) (by decide) (by decide) (fun r S' hr => ?_)
              exact z_iret F dX9_meet_58 rfl (oP.after (gC.ofJ hG1) hr)
            · exact absurd rfl c5
          | true =>
            obtain ⟨e1, e2, e3⟩ := hbt rfl
            have hw := of_decide_eq_true hb.symm
            rw [if_pos hw]
            have hC1 := rCT.joint (j := ((tj s).1 + (tj s).2.1 * jnK (tj s).1 (tj s).2.1 pn rn, (tj s).2.1 * pn, (tj s).2.2 + 1)) hR hC hK1 hG1 hX1 e1 e2 (by rw [e3, j3]) (jn_lt j4 (by omega)) hw
            refine z_if_eq (tgt := 54) F dX9_meet_41 (by decide) (fun c5 => ?_) (fun c5 => ?_)
            · exact absurd c5 (by decide)
            · refine z_aload_n F dX9_meet_44 rfl ?_
              refine z_getR F dX9_meet_45 gr_X9_70 (by assumption) (by assumption) ?_
              refine z_getI F dX9_meet_48 gi_X9_243 (by assumption) ?_
              refine z_ti hC1.2.2.2.2.2.1.2.2.1 ?_
              refine z_goto (tgt := 58) F dX9_meet_51 (by decide) ?_
              exact z_iret F dX9_meet_58 rfl (oP.after (gC.ofJ hG1) (oP.same hC1))
        · rw [if_pos (dz_t c4)]
          refine z_bipush (v := (-5)) F dX9_meet_29 (by decide) ?_
          exact z_iret F dX9_meet_31 rfl (oP.same hC)
      · exact bad (by rw [epn, inI_f (Or.inr (Int32.le_iff_toInt_le.mpr (by have h1 := mt Int32.lt_iff_toInt_lt.mpr c3; omega))), Bool.and_false]; decide)
set_option maxRecDepth 100000 in
theorem c_joined (what : Int32) (hR : xR Z G) (hC : rCT Z G V T X s) : zCt Γ mX9_joined 3 80 0 0 [.ref G.x, .int what] (Z, V) (pI (oP Z G V (opJoined s what))) := by
  refine zCt.of [some (.ref G.x), some (.int what)] pn_X9_joined rfl (Nat.le_of_ble_eq_true rfl) rfl (fun κ F => ?_)
  obtain ⟨b0, b1, b2, b3, b4, b5, b6, b7, b8⟩ := hR.1
  obtain ⟨hJ, hS, hA⟩ := hR.2.1
  have hRj := hR.2.2.2.1.2.2.2.1
  have hj0 := hRj.1
  obtain ⟨j1, j2, j3, j4, j5⟩ := hC.2.2.2.2.2.1
  have r1 := hRj.r 1 (by decide) (by decide)
  have r2 := hRj.r 2 (by decide) (by decide)
  unfold opJoined keepC
  have go : (what = 0 ∨ what = 1) → zX Γ κ (Z, V) 0 0 (zQ Γ κ (pI (oP Z G V (if full s = true then (s, -4) else keepF s (false, if what = 0 then (tj s).1 else (tj s).2.1, 1)))) 0 0) 11 [some (.ref G.x), some (.int what)] [] := by
    intro hw
    refine z_aload_n F dX9_joined_11 rfl ?_
    refine z_cVz F (c_isFull hR hC) dX9_joined_12 ml_X9_81 ok_X9_isFull b0 (by decide) rfl rfl rfl (Nat.le_of_ble_eq_true rfl) (by decide) (by decide) (fun r' S' hr => ?_)
    obtain ⟨rfl, rfl⟩ := hr
    refine z_if_eq (tgt := 21) F dX9_joined_15 (by decide) (fun c2 => ?_) (fun c2 => ?_)
    · have h := zb_f c2
      have h40 := full_f h
      rw [if_neg h]
      obtain ⟨n1, n2, n3, n4⟩ := hR.num h40
      have i2 := hC.2.1.2.1
      have fin : ∀ (V1 : Hv) (y : Fr), KS Z G.uo G.vo G.w V1 (va_up T (G.nu (tc s)) y) X → eF Z V V1 → zX Γ κ (Z, V1) 0 0 (zQ Γ κ (pI (oP Z G V (keepF s y))) 0 0) 54 [some (.ref G.x), some (.int what)] [] := by
        intro V1 y hK1 hF1
        have hC1 := rCT.up hR hC h40 hK1 hF1
        refine z_aload_n F dX9_joined_54 rfl ?_
        refine z_iconst (v := nI 1) F dX9_joined_55 (by decide) ?_
        refine z_cVi F (c_keep (b := true) hR hC1 (fun _ => h40)) dX9_joined_56 ml_X9_92 ok_X9_keep b0 (by decide) rfl rfl rfl (Nat.le_of_ble_eq_true rfl) (by decide) (by decide) (fun r S' hr => ?_)
        rw [if_pos rfl, up_self] at hr
        exact z_iret F dX9_joined_59 rfl (oP.after (gC.ofF hF1) hr)
      refine z_aload_n F dX9_joined_21 rfl ?_
      refine z_getR F dX9_joined_22 gr_X9_35 (by assumption) (by assumption) ?_
      refine z_aload_n F dX9_joined_25 rfl ?_
      refine z_getI F dX9_joined_26 gi_X9_85 (by assumption) ?_
      refine z_ti i2 ?_
      refine z_aald F dX9_joined_29 (by assumption) n1 n2 ?_
      refine z_iload_n F dX9_joined_30 rfl ?_
      refine z_if_ne (tgt := 44) F dX9_joined_31 (by decide) (fun c3 => ?_) (fun c3 => ?_)
      · have h0 : ¬ what = 0 := c3
        rw [if_neg h0]
        refine z_aload_n F dX9_joined_44 rfl ?_
        refine z_getR F dX9_joined_45 gr_X9_70 (by assumption) (by assumption) ?_
        refine z_getR F dX9_joined_48 gr_X9_249 (by assumption) (by assumption) ?_
        refine z_cVv F (K_setWhole hC.1 hJ hS n3 (hRj.w 2 (by decide) (by decide)) (by rw [j2]; exact j5)) dX9_joined_51 ml_X9_252 ok_X3_setWhole n3 (by decide) rfl rfl rfl (Nat.le_of_ble_eq_true rfl) (by decide) (by decide) (fun S' hS' => ?_)
        obtain ⟨V1, rfl, hK1, hF1⟩ := hS'
        rw [j2] at hK1
        exact fin V1 _ hK1 hF1
      · have h0 : what = 0 := c3
        rw [if_pos h0]
        refine z_aload_n F dX9_joined_34 rfl ?_
        refine z_getR F dX9_joined_35 gr_X9_70 (by assumption) (by assumption) ?_
        refine z_getR F dX9_joined_38 gr_X9_246 (by assumption) (by assumption) ?_
        refine z_goto (tgt := 51) F dX9_joined_41 (by decide) ?_
        refine z_cVv F (K_setWhole hC.1 hJ hS n3 (hRj.w 1 (by decide) (by decide)) (by rw [j1]; exact Nat.lt_trans j4 j5)) dX9_joined_51 ml_X9_252 ok_X3_setWhole n3 (by decide) rfl rfl rfl (Nat.le_of_ble_eq_true rfl) (by decide) (by decide) (fun S' hS' => ?_)
        obtain ⟨V1, rfl, hK1, hF1⟩ := hS'
        rw [j1] at hK1
        exact fin V1 _ hK1 hF1
    · have h := zb_t c2
      rw [if_pos h]
      refine z_bipush (v := (-4)) F dX9_joined_18 (by decide) ?_
      exact z_iret F dX9_joined_20 rfl (oP.same hC)
  refine z_iload_n F dX9_joined_0 rfl ?_
  refine z_if_eq (tgt := 11) F dX9_joined_1 (by decide) (fun c => ?_) (fun c => ?_)
  · have h : what = 0 ∨ what = 1 := Or.inl c
    rw [if_pos h]
    exact go h
  · refine z_iload_n F dX9_joined_4 rfl ?_
    refine z_iconst (v := nI 1) F dX9_joined_5 (by decide) ?_
    refine z_icmp_eq (tgt := 11) F dX9_joined_6 (by decide) (fun c2 => ?_) (fun c2 => ?_)
    · have h : what = 0 ∨ what = 1 := Or.inr c2
      rw [if_pos h]
      exact go h
    · rw [if_neg (fun z => by rcases z with z | z; exact c z; exact c2 z)]
      refine z_iconst (v := (-1)) F dX9_joined_9 (by decide) ?_
      exact z_iret F dX9_joined_10 rfl (oP.same hC)
set_option maxRecDepth 100000 in
theorem c_recover (hR : xR Z G) (hC : rCT Z G V T X s) : zCt Γ mX9_recover 6 165 0 0 [.ref G.x] (Z, V) (pI (oP Z G V (opRec s))) := by
  refine zCt.of [some (.ref G.x)] pn_X9_recover rfl (Nat.le_of_ble_eq_true rfl) rfl (fun κ F => ?_)
  obtain ⟨b0, b1, b2, b3, b4, b5, b6, b7, b8⟩ := hR.1
  obtain ⟨hJ, hS, hA⟩ := hR.2.1
  have hRj := hR.2.2.2.1.2.2.2.1
  have hj0 := hRj.1
  obtain ⟨j1, j2, j3, j4, j5⟩ := hC.2.2.2.2.2.1
  obtain ⟨-, ⟨k1, k2, -, -⟩, -⟩ := hR.2.2.2.2
  unfold opRec
  refine z_aload_n F dX9_recover_0 rfl ?_
  refine z_cVz F (c_isFull hR hC) dX9_recover_1 ml_X9_81 ok_X9_isFull b0 (by decide) rfl rfl rfl (Nat.le_of_ble_eq_true rfl) (by decide) (by decide) (fun r' S' hr => ?_)
  obtain ⟨rfl, rfl⟩ := hr
  refine z_if_eq (tgt := 10) F dX9_recover_4 (by decide) (fun c2 => ?_) (fun c2 => ?_)
  · have h := zb_f c2
    have h40 := full_f h
    rw [if_neg h]
    obtain ⟨n1, n2, n3, n4⟩ := hR.num h40
    have i2 := hC.2.1.2.1
    refine z_aload_n F dX9_recover_10 rfl ?_
    refine z_getR F dX9_recover_11 gr_X9_70 (by assumption) (by assumption) ?_
    refine z_aload_n F dX9_recover_14 rfl ?_
    refine z_getR F dX9_recover_15 gr_X9_35 (by assumption) (by assumption) ?_
    refine z_aload_n F dX9_recover_18 rfl ?_
    refine z_getI F dX9_recover_19 gi_X9_85 (by assumption) ?_
    refine z_ti i2 ?_
    refine z_aald F dX9_recover_22 (by assumption) n1 n2 ?_
    refine z_cVz F (c_tell hC.1 hJ hA hS hRj n3 (by rw [j2]; exact j5) (by rw [j1, j2]; exact j4)) dX9_recover_23 ml_X9_256 ok_X4_tell hj0 (by decide) rfl rfl rfl (Nat.le_of_ble_eq_true rfl) (by decide) (by decide) (fun b S' hr => ?_)
    obtain ⟨V1, T1, X1, rfl, hK1, hF1, hX1, hcase⟩ := hr
    have hx : xEq G X X1 := ⟨hX1 _ (fun k ha hb => hRj.ne 1 k (by decide) (by decide) (by omega) hb (by omega)), hX1 _ (fun k ha hb => hRj.ne 2 k (by decide) (by decide) (by omega) hb (by omega)), hX1 _ (fun k ha hb e => by rw [e, k1 k (by omega) hb] at k2; omega)⟩
    rw [j1, j2] at hcase
    rcases hcase with ⟨hno, rfl, rfl⟩ | ⟨x, hso, rfl, rfl⟩
    · rw [hno]
      have hC1 := hC.view hK1 (vEq.ofF hR hF1) (tEq.refl G s _) hx
      refine z_if_eq (tgt := 37) F dX9_recover_26 (by decide) (fun c3 => ?_) (fun c3 => ?_)
      · refine z_bipush (v := (-6)) F dX9_recover_37 (by decide) ?_
        exact z_iret F dX9_recover_39 rfl (oP.after (gC.ofF hF1) (oP.same hC1))
      · exact absurd rfl c3
    · rw [hso]
      have hC1 := hC.view hK1 (vEq.ofF hR hF1) (tEq.up hR (Or.inl ⟨h40, rfl⟩) (by omega)) hx
      refine z_if_eq (tgt := 37) F dX9_recover_26 (by decide) (fun c3 => ?_) (fun c3 => ?_)
      · exact absurd c3 (by decide)
      · refine z_aload_n F dX9_recover_29 rfl ?_
        refine z_iconst (v := nI 1) F dX9_recover_30 (by decide) ?_
        refine z_cVi F (c_keep (b := true) hR hC1 (fun _ => h40)) dX9_recover_31 ml_X9_92 ok_X9_keep b0 (by decide) rfl rfl rfl (Nat.le_of_ble_eq_true rfl) (by decide) (by decide) (fun r S' hr => ?_)
        rw [if_pos rfl, up_self] at hr
        refine z_goto (tgt := 39) F dX9_recover_34 (by decide) ?_
        exact z_iret F dX9_recover_39 rfl (oP.after (gC.ofF hF1) hr)
  · have h := zb_t c2
    rw [if_pos h]
    refine z_bipush (v := (-4)) F dX9_recover_7 (by decide) ?_
    exact z_iret F dX9_recover_9 rfl (oP.same hC)
theorem rCT.parted {V1 : Hv} (hR : xR Z G) (hC : rCT Z G V T X s) (hK : KS Z G.uo G.vo G.w V1 T (va_up (va_up X (G.jw 1) 0) (G.jw 2) 1)) (hG : gJ Z G.J V V1) (h9 : vI V1 4 9 G.J = 0) : rCT Z G V1 T (va_up (va_up X (G.jw 1) 0) (G.jw 2) 1) (wJ s (0, 1, 0)) := by
  have hRj := hR.2.2.2.1.2.2.2.1
  have n12 := hRj.ne 1 2 (by decide) (by decide) (by decide) (by decide) (by decide)
  exact rCT.joint hR hC hK hG (((xN.refl _ X).up (by decide) (by decide)).up (by decide) (by decide)) (by rw [up_ne _ _ n12, up_self]) (up_self _ _ _) h9 (show 0 < 1 by decide) (show 1 < 4294967296 ^ 6 by decide)
set_option maxRecDepth 100000 in
theorem c_part (hR : xR Z G) (hC : rCT Z G V T X s) : zCt Γ mX9_part 2 43 0 0 [.ref G.x] (Z, V) (pI (oP Z G V (opPart s))) := by
  refine zCt.of [some (.ref G.x), none] pn_X9_part rfl (Nat.le_of_ble_eq_true rfl) rfl (fun κ F => ?_)
  obtain ⟨b0, b1, b2, b3, b4, b5, b6, b7, b8⟩ := hR.1
  obtain ⟨hJ, hS, hA⟩ := hR.2.1
  have hRj := hR.2.2.2.1.2.2.2.1
  have hj0 := hRj.1
  have j3 := hC.2.2.2.2.2.1.2.2.1
  refine z_aload_n F dX9_part_0 rfl ?_
  refine z_getR F dX9_part_1 gr_X9_70 (by assumption) (by assumption) ?_
  refine z_getI F dX9_part_4 gi_X9_243 (by assumption) ?_
  refine z_ti j3 ?_
  refine z_istore_n_1 F dX9_part_7 rfl ?_
  refine z_aload_n F dX9_part_8 rfl ?_
  refine z_getR F dX9_part_9 gr_X9_70 (by assumption) (by assumption) ?_
  refine z_cVv F (c_jForget hC.1 hJ hS hRj) dX9_part_12 ml_X9_260 ok_X4_forget hj0 (by decide) rfl rfl rfl (Nat.le_of_ble_eq_true rfl) (by decide) (by decide) (fun S' hS' => ?_)
  obtain ⟨V1, rfl, hK1, hG1, h9⟩ := hS'
  refine z_iload_n F dX9_part_15 rfl ?_
  exact z_iret F dX9_part_16 rfl ⟨rfl, V1, rfl, gC.ofJ hG1, T, _, rCT.parted hR hC hK1 hG1 h9⟩
theorem gC.ofX {V1 : Hv} (hG : gX Z G.Y G.ba V V1) : gC Z G V V1 := hG.mono (fun ci k a z => by rcases z with (z | z) | z <;> (rw [z.1]; decide)) (fun a z => by
  rcases z with z | z
  · exact Or.inl z
  · exact Or.inr (Or.inr (Or.inr (Or.inr (Or.inr (Or.inr (Or.inr z)))))))
set_option maxRecDepth 100000 in
theorem c_decimals (a dg : Int32) (up : Bool) (hR : xR Z G) (hC : rCT Z G V T X s) : zCt Γ mX9_decimals 4 114 0 0 [.ref G.x, .int a, .int dg, .int (zb up)] (Z, V) (pI (oP Z G V (opDec s a dg up))) := by
  refine zCt.of [some (.ref G.x), some (.int a), some (.int dg), some (.int (zb up))] pn_X9_decimals rfl (Nat.le_of_ble_eq_true rfl) rfl (fun κ F => ?_)
  obtain ⟨b0, b1, b2, b3, b4, b5, b6, b7, b8⟩ := hR.1
  obtain ⟨hJ, hS, hA⟩ := hR.2.1
  have hcs := hC.2.1.2.2.1
  have hRt := hR.2.2.2.1.2.2.2.2
  have hRj := hR.2.2.2.1.2.2.2.1
  have hy0 := hRt.1.1
  have hn12 := hRt.2.2.1
  obtain ⟨-, ⟨k1, k2, k3, k4⟩, ⟨fc1, fc2, fc3, fc4, fc5, fc6⟩, -⟩ := hR.2.2.2.2
  have bad : ¬ (isN s a && inI dg 31) = true → zX Γ κ (Z, V) 0 0 (zQ Γ κ (pI (oP Z G V (opDec s a dg up))) 0 0) 18 [some (.ref G.x), some (.int a), some (.int dg), some (.int (zb up))] [] := by
    intro h
    unfold opDec
    rw [if_neg h]
    refine z_iconst (v := (-1)) F dX9_decimals_18 (by decide) ?_
    exact z_iret F dX9_decimals_19 rfl (oP.same hC)
  refine z_aload_n F dX9_decimals_0 rfl ?_
  refine z_iload_n F dX9_decimals_1 rfl ?_
  refine z_cVz F (c_isNumber a hR hC) dX9_decimals_2 ml_X9_96 ok_X9_isNumber b0 (by decide) rfl rfl rfl (Nat.le_of_ble_eq_true rfl) (by decide) (by decide) (fun r S' hr => ?_)
  obtain ⟨rfl, rfl⟩ := hr
  refine z_if_eq (tgt := 18) F dX9_decimals_5 (by decide) (fun c => ?_) (fun c => ?_)
  · have h := (zb_eq0 _).mp c
    exact bad (by rw [h]; simp)
  · have h := zb_t c
    refine z_iload_n F dX9_decimals_8 rfl ?_
    refine z_if_lt (tgt := 18) F dX9_decimals_9 (by decide) (fun c2 => ?_) (fun c2 => ?_)
    · exact bad (by rw [inI_f (x := dg) (Or.inl c2), Bool.and_false]; decide)
    · refine z_iload_n F dX9_decimals_12 rfl ?_
      refine z_bipush (v := nI 30) F dX9_decimals_13 (by decide) ?_
      refine z_icmp_le (tgt := 20) F dX9_decimals_15 (by decide) (fun c3 => ?_) (fun c3 => ?_)
      · have hin : inI dg 31 = true := inI_of c2 (fun z => by have h1 := Int32.le_iff_toInt_le.mp c3; have h2 := Int32.le_iff_toInt_le.mp z; rw [nI_toInt (by decide)] at h1 h2; omega)
        unfold opDec
        rw [if_pos (by rw [h, hin]; rfl)]
        obtain ⟨ja, hja, rfl, eja⟩ := isN_t h hcs
        obtain ⟨dn, hdn, rfl, edn⟩ := inI_t hin (by decide)
        obtain ⟨pa1, pa2, pa3, pa4⟩ := hR.num (show ja < 40 by omega)
        rw [eja, edn, ← hC.2.2.1 ja hja]
        refine z_aload_n F dX9_decimals_20 rfl ?_
        refine z_getR F dX9_decimals_21 gr_X9_77 (by assumption) (by assumption) ?_
        refine z_aload_n F dX9_decimals_24 rfl ?_
        refine z_getR F dX9_decimals_25 gr_X9_35 (by assumption) (by assumption) ?_
        refine z_iload_n F dX9_decimals_28 rfl ?_
        refine z_aald F dX9_decimals_29 (by assumption) pa1 pa2 ?_
        refine z_iload_n F dX9_decimals_30 rfl ?_
        refine z_iload_n F dX9_decimals_31 rfl ?_
        refine z_cVv F (c_write (dg := dn) (up := up) hC.1 hJ hA hS hRt pa3 (by omega) hC.2.2.2.2.2.2.1) dX9_decimals_32 ml_X9_261 ok_X7_write hy0 (by decide) rfl rfl rfl (Nat.le_of_ble_eq_true rfl) (by decide) (by decide) (fun S' hS' => ?_)
        obtain ⟨V1, X1, rfl, hK1, hG1, hX1, hO1⟩ := hS'
        have hC1 : rCT Z G V1 T X1 (wT s (decB (T (G.nu ja)) dn up)) := by
          obtain ⟨-, ⟨i1, i2, i3, i4, i5, i6⟩, hn, hm, ⟨s1, s2, s3⟩, ⟨j1, j2, j3, j4, j5⟩, hy, -⟩ := hC
          have ni : ∀ {ci k a : Nat}, ci ≠ 7 → ci ≠ 3 → ci ≠ 6 → vI V1 ci k a = vI V ci k a := fun h7 h3 h4 => hG1.1 _ _ _ (fun z => by rcases z with (z | z) | z; exact h7 z.1; exact h3 z.1; exact h4 z.1)
          obtain ⟨-, ⟨d1, d2, d3, d4, d5, d6, -⟩, -, -, -, -, hc1, hc2, hc3, -⟩ := hR.2.2.2.1.2.2.1
          have na : ∀ {x : Nat}, ¬ pA0 Z x → zIn Z x 11 → vA V1 x = vA V x := fun h0 h11 => hG1.2.1 _ (fun z => by
            rcases z with z | z
            · exact h0 z
            · exact hR.ba11 h11 z.symm)
          refine ⟨hK1, ⟨(ni (by decide) (by decide) (by decide)).trans i1, (ni (by decide) (by decide) (by decide)).trans i2, i3, (ni (by decide) (by decide) (by decide)).trans i4, (ni (by decide) (by decide) (by decide)).trans i5, (ni (by decide) (by decide) (by decide)).trans i6⟩, hn, hm, ⟨(ni (by decide) (by decide) (by decide)).trans s1, (ni (by decide) (by decide) (by decide)).trans s2, fun x hx9 => ?_⟩, ⟨?_, ?_, (ni (by decide) (by decide) (by decide)).trans j3, j4, j5⟩, ?_, hO1⟩
          · obtain ⟨q1, q2, q3, q4, q5⟩ := s3 x hx9
            exact ⟨(ni (by decide) (by decide) (by decide)).trans q1, (ni (by decide) (by decide) (by decide)).trans q2, q3, fun p hp => by rw [na hc1 d1, na hc2 d3, na hc3 d5]; exact q4 p hp, q5⟩
          · rw [hX1 _ (fun e => by have := k1 1 (by decide) (by decide); rw [e, k3] at this; omega) (fun e => by have := k1 1 (by decide) (by decide); rw [e, k4] at this; omega)]
            exact j1
          · rw [hX1 _ (fun e => by have := k1 2 (by decide) (by decide); rw [e, k3] at this; omega) (fun e => by have := k1 2 (by decide) (by decide); rw [e, k4] at this; omega)]
            exact j2
          · rw [hX1 _ hn12.1 hn12.2.1]
            exact hy
        refine z_aload_n F dX9_decimals_35 rfl ?_
        refine z_getR F dX9_decimals_36 gr_X9_77 (by assumption) (by assumption) ?_
        refine z_getI F dX9_decimals_39 gi_X9_265 (by assumption) ?_
        refine z_ti hO1.1 ?_
        exact z_iret F dX9_decimals_42 rfl (oP.after (gC.ofX hG1) (oP.same hC1))
      · exact bad (by rw [inI_f (x := dg) (Or.inr (Int32.le_iff_toInt_le.mpr (by have h1 := mt Int32.le_iff_toInt_le.mpr c3; rw [nI_toInt (by decide)] at h1 ⊢; omega))), Bool.and_false]; decide)
set_option maxRecDepth 100000 in
theorem c_sign (i : Int32) (hR : xR Z G) (hC : rCT Z G V T X s) : zCt Γ mX9_sign 0 0 0 0 [.ref G.x, .int i] (Z, V) (pI (oP Z G V (s, opSign s i))) := by
  refine zCt.of [some (.ref G.x), some (.int i)] pn_X9_sign rfl (Nat.le_of_ble_eq_true rfl) rfl (fun κ F => ?_)
  obtain ⟨b0, b1, b2, b3, b4, b5, b6, b7, b8⟩ := hR.1
  obtain ⟨⟨hy0, -, -, -, -, r4⟩, -, -, hb, hbn⟩ := hR.2.2.2.1.2.2.2.2
  obtain ⟨y1, y2, y3⟩ := hC.2.2.2.2.2.2.2
  have bad : ¬ inI i (tt s).length = true → zX Γ κ (Z, V) 0 0 (zQ Γ κ (pI (oP Z G V (s, opSign s i))) 0 0) 15 [some (.ref G.x), some (.int i)] [] := by
    intro h
    unfold opSign
    rw [if_neg h]
    refine z_iconst (v := (-1)) F dX9_sign_15 (by decide) ?_
    exact z_iret F dX9_sign_16 rfl (oP.same hC)
  refine z_iload_n F dX9_sign_0 rfl ?_
  refine z_if_lt (tgt := 15) F dX9_sign_1 (by decide) (fun c => ?_) (fun c => ?_)
  · exact bad (by rw [inI_f (Or.inl c)]; decide)
  · refine z_iload_n F dX9_sign_4 rfl ?_
    refine z_aload_n F dX9_sign_5 rfl ?_
    refine z_getR F dX9_sign_6 gr_X9_77 (by assumption) (by assumption) ?_
    refine z_getI F dX9_sign_9 gi_X9_265 (by assumption) ?_
    refine z_ti y1 ?_
    refine z_icmp_lt (tgt := 17) F dX9_sign_12 (by decide) (fun c2 => ?_) (fun c2 => ?_)
    · have hin : inI i (tt s).length = true := inI_of c (fun z => by have h1 := Int32.lt_iff_toInt_lt.mp c2; have h2 := Int32.le_iff_toInt_le.mp z; omega)
      unfold opSign
      rw [if_pos hin]
      obtain ⟨k, hk, rfl, ek⟩ := inI_t hin (by omega)
      rw [ek]
      have ib : vp_in (nI ((tt s).length - 1 - k)) (zn Z G.ba) := by rw [hbn]; exact vp_in_nI (by omega) (by decide)
      have rb : vA V G.ba (nI ((tt s).length - 1 - k)).toNatClampNeg = nI ((tt s).getD ((tt s).length - 1 - k) 0) := by rw [nI_clamp (by omega)]; exact y2 _ (by omega)
      refine z_aload_n F dX9_sign_17 rfl ?_
      refine z_getR F dX9_sign_18 gr_X9_77 (by assumption) (by assumption) ?_
      refine z_getR F dX9_sign_21 gr_X9_266 (by assumption) (by assumption) ?_
      refine z_aload_n F dX9_sign_24 rfl ?_
      refine z_getR F dX9_sign_25 gr_X9_77 (by assumption) (by assumption) ?_
      refine z_getI F dX9_sign_28 gi_X9_265 (by assumption) ?_
      refine z_ti y1 ?_
      refine z_iconst (v := nI 1) F dX9_sign_31 (by decide) ?_
      refine z_isub F dX9_sign_32 ?_
      refine z_ti (pk_sub (by omega)) ?_
      refine z_iload_n F dX9_sign_33 rfl ?_
      refine z_isub F dX9_sign_34 ?_
      refine z_ti (pk_sub (by omega)) ?_
      refine z_bald F dX9_sign_35 hb ib ?_
      refine z_ti rb ?_
      exact z_iret F dX9_sign_36 rfl (oP.same hC)
    · exact bad (by rw [inI_f (Or.inr (Int32.le_iff_toInt_le.mpr (by have h1 := mt Int32.lt_iff_toInt_lt.mpr c2; omega)))]; decide)
set_option maxRecDepth 100000 in
theorem c_count (what : Int32) (hR : xR Z G) (hC : rCT Z G V T X s) : zCt Γ mX9_count 0 0 0 0 [.ref G.x, .int what] (Z, V) (pI (oP Z G V (s, opCount G.n s what))) := by
  refine zCt.of [some (.ref G.x), some (.int what)] pn_X9_count rfl (Nat.le_of_ble_eq_true rfl) rfl (fun κ F => ?_)
  obtain ⟨b0, b1, b2, b3, b4, b5, b6, b7, b8⟩ := hR.1
  have hj0 := hR.2.2.2.1.2.2.2.1.1
  have j3 := hC.2.2.2.2.2.1.2.2.1
  obtain ⟨i1, i2, i3, i4, -⟩ := hC.2.1
  unfold opCount
  refine z_iload_n F dX9_count_0 rfl ?_
  by_cases w0 : what = 0
  · subst w0
    refine z_tsIn (off := 31) (tgt := 32) F dX9_count_1 (by decide) (by decide) rfl (by decide) ?_
    rw [if_pos rfl]
    refine z_aload_n F dX9_count_32 rfl ?_
    refine z_getI F dX9_count_33 gi_X9_85 (by assumption) ?_
    refine z_ti i2 ?_
    exact z_iret F dX9_count_36 rfl (oP.same hC)
  · rw [if_neg w0]
    by_cases w1 : what = 1
    · subst w1
      refine z_tsIn (off := 36) (tgt := 37) F dX9_count_1 (by decide) (by decide) rfl (by decide) ?_
      rw [if_pos rfl]
      refine z_aload_n F dX9_count_37 rfl ?_
      refine z_getR F dX9_count_38 gr_X9_70 (by assumption) (by assumption) ?_
      refine z_getI F dX9_count_41 gi_X9_243 (by assumption) ?_
      refine z_ti j3 ?_
      exact z_iret F dX9_count_44 rfl (oP.same hC)
    · rw [if_neg w1]
      by_cases w2 : what = 2
      · subst w2
        refine z_tsIn (off := 44) (tgt := 45) F dX9_count_1 (by decide) (by decide) rfl (by decide) ?_
        rw [if_pos rfl]
        refine z_aload_n F dX9_count_45 rfl ?_
        refine z_getI F dX9_count_46 gi_X9_21 (by assumption) ?_
        refine z_ti i1 ?_
        exact z_iret F dX9_count_49 rfl (oP.same hC)
      · rw [if_neg w2]
        by_cases w3 : what = 3
        · subst w3
          refine z_tsIn (off := 49) (tgt := 50) F dX9_count_1 (by decide) (by decide) rfl (by decide) ?_
          rw [if_pos rfl]
          refine z_aload_n F dX9_count_50 rfl ?_
          refine z_getI F dX9_count_51 gi_X9_270 (by assumption) ?_
          refine z_ti i4 ?_
          exact z_iret F dX9_count_54 rfl (oP.same hC)
        · rw [if_neg w3]
          refine z_tsOut (tgt := 55) F dX9_count_1 (toI_out (n := 3) (by decide) (fun k hk => ?_)) (by decide) ?_
          · match k, hk with
            | 0, _ => exact w0
            | 1, _ => exact w1
            | 2, _ => exact w2
            | 3, _ => exact w3
          refine z_iconst (v := (-1)) F dX9_count_55 (by decide) ?_
          exact z_iret F dX9_count_56 rfl (oP.same hC)
set_option maxRecDepth 100000 in
theorem c_clear (hR : xR Z G) (hC : rCT Z G V T X s) : zCt Γ mX9_clear 2 43 0 0 [.ref G.x] (Z, V) (pI (oP Z G V (opClear s))) := by
  refine zCt.of [some (.ref G.x), none, none] pn_X9_clear rfl (Nat.le_of_ble_eq_true rfl) rfl (fun κ F => ?_)
  obtain ⟨b0, b1, b2, b3, b4, b5, b6, b7, b8⟩ := hR.1
  obtain ⟨hJ, hS, hA⟩ := hR.2.1
  have hn5 := hR.n5
  have h30 := nn30 hn5.2
  obtain ⟨-, -, hRs, hRj, -⟩ := id hR.2.2.2.1
  have hs0 := hRs.1.1
  have hj0 := hRj.1
  obtain ⟨r1, r2, r3⟩ := hR.2.2.1.2
  obtain ⟨⟨fd1, fd2, fd3, fd4, fd5, fd6, fd7, fd8, fd9⟩, -, -, -, fde⟩ := hR.2.2.2.2
  have i2' := hC.2.1.2.1
  obtain ⟨V0, hV0⟩ : ∃ V0, V0 = sI V 8 9 G.x (nI 0) := ⟨_, rfl⟩
  have hg0 : gC Z G V V0 := by rw [hV0]; exact gC.setI V _ (by decide)
  have hC0 : rCT Z G V0 T X (0, s.2) := by
    obtain ⟨hK, ⟨i1, i2, i3, i4, i5, i6⟩, hn, hm, hs, hj, hy⟩ := hC
    rw [hV0]
    refine ⟨hK.setI8, ⟨?_, vI_sI_self _ _ _ _ _, Nat.zero_le _, ?_, i5, i6⟩, fun i hi => absurd hi (Nat.not_lt_zero i), hm, hs, hj, hy⟩
    · rw [vI_sI_ne _ _ (fun z => absurd z.2.1 (by decide))]; exact i1
    · rw [vI_sI_ne _ _ (fun z => absurd z.2.1 (by decide))]; exact i4
  generalize hQ : zQ Γ κ (pI (oP Z G V (opClear s))) 0 0 = Q
  have loop : ∀ (d i : Nat) (V1 : Hv) (T1 : Nat → Fr), i + d = G.n * (G.n + 1) → KS Z G.uo G.vo G.w V1 T1 X → eF Z V0 V1 → tN (fun q => ∃ k, k < G.n * (G.n + 1) ∧ q = G.ee k) T T1 → (∀ k, k < i → T1 (G.ee k) = f0) → zX Γ κ (Z, V1) 0 0 Q 12 [some (.ref G.x), some (.int (nI (tc s))), some (.int (nI i))] [] := by
    intro d
    induction d with
    | zero =>
      intro i V1 T1 hi hK1 hF1 hT1 hz
      refine z_iload_n F dX9_clear_12 rfl ?_
      refine z_aload_n F dX9_clear_13 rfl ?_
      refine z_getR F dX9_clear_14 gr_X9_39 (by assumption) (by assumption) ?_
      refine z_alen F dX9_clear_17 r1 (by decide) ?_
      refine z_ti (congrArg nI r2) ?_
      refine z_icmp_ge (tgt := 36) F dX9_clear_18 (by decide) (fun c => ?_) (fun c => ?_)
      · have hC1 : rCT Z G V1 T1 X (wM (0, s.2) (fun _ _ => f0)) := by
          obtain ⟨-, ⟨i1, i2, i3, i4, i5, i6⟩, -, -, ⟨s1, s2, s3⟩, ⟨j1, j2, j3, j4, j5⟩, hy, y1, y2, y3⟩ := hC0
          obtain ⟨v1, v2, v3, v4, v5, v6, v7, v8, v9, v10⟩ := vEq.ofF hR hF1
          refine ⟨hK1, ⟨(v1 0).trans i1, (v1 9).trans i2, i3, (v1 10).trans i4, v2.trans i5, v3.trans i6⟩, fun i hi => absurd hi (Nat.not_lt_zero i), fun p k hp hk => hz _ (by have := idx_lt hp hk; omega), ⟨(v4 0).trans s1, (v4 8).trans s2, fun x hx9 => ?_⟩, ⟨j1, j2, (v5 9).trans j3, j4, j5⟩, hy, (v6 5).trans y1, fun i hi => by rw [v10]; exact y2 i hi, y3⟩
          obtain ⟨q1, q2, q3, q4, q5⟩ := s3 x hx9
          exact ⟨(v4 9).trans q1, (v4 10).trans q2, q3, fun p hp => by rw [v7, v8, v9]; exact q4 p hp, fun hx1 j hj => by
            rw [hT1 _ (fun z => by obtain ⟨k, hk, e⟩ := z; have := fd7 j hj; rw [e, fd2 k hk] at this; omega)]
            exact q5 hx1 j hj⟩
        refine z_aload_n F dX9_clear_36 rfl ?_
        refine z_getR F dX9_clear_37 gr_X9_61 (by assumption) (by assumption) ?_
        refine z_cVv F (c_forget hC1.1 hRs hC1.2.2.2.2.1) dX9_clear_40 ml_X9_170 ok_X6_forget hs0 (by decide) rfl rfl rfl (Nat.le_of_ble_eq_true rfl) (by decide) (by decide) (fun S' hS' => ?_)
        obtain ⟨V2, rfl, hK2, hG2, hO2⟩ := hS'
        have hC2 := rCT.solved hR hC1 hK2 hG2 (fun _ _ => rfl) (fun _ _ => rfl) hO2
        refine z_aload_n F dX9_clear_43 rfl ?_
        refine z_getR F dX9_clear_44 gr_X9_70 (by assumption) (by assumption) ?_
        refine z_cVv F (c_jForget hC2.1 hJ hS hRj) dX9_clear_47 ml_X9_260 ok_X4_forget hj0 (by decide) rfl rfl rfl (Nat.le_of_ble_eq_true rfl) (by decide) (by decide) (fun S' hS' => ?_)
        obtain ⟨V3, rfl, hK3, hG3, h9⟩ := hS'
        have hC3 := rCT.parted hR hC2 hK3 hG3 h9
        subst hQ
        refine z_iload_n F dX9_clear_50 rfl ?_
        exact z_iret F dX9_clear_51 rfl ⟨rfl, V3, rfl, ((hg0.trans (gC.ofF hF1)).trans (gC.ofS hG2)).trans (gC.ofJ hG3), T1, _, hC3⟩
      · exact absurd (nI_le (by omega) (by omega)) c
    | succ d ih =>
      intro i V1 T1 hi hK1 hF1 hT1 hz
      have hlt : i < G.n * (G.n + 1) := by omega
      have ie : vp_in (nI i) (zn Z G.ea) := by rw [r2]; exact vp_in_nI hlt (by omega)
      have re : zA Z G.ea (nI i).toNatClampNeg = some (G.ee i) := by rw [nI_clamp (by omega)]; exact (r3 i hlt).1
      refine z_iload_n F dX9_clear_12 rfl ?_
      refine z_aload_n F dX9_clear_13 rfl ?_
      refine z_getR F dX9_clear_14 gr_X9_39 (by assumption) (by assumption) ?_
      refine z_alen F dX9_clear_17 r1 (by decide) ?_
      refine z_ti (congrArg nI r2) ?_
      refine z_icmp_ge (tgt := 36) F dX9_clear_18 (by decide) (fun c => ?_) (fun c => ?_)
      · exact absurd ((nI_leI (by omega) (by omega)).mp c) (by omega)
      · refine z_aload_n F dX9_clear_21 rfl ?_
        refine z_getR F dX9_clear_22 gr_X9_39 (by assumption) (by assumption) ?_
        refine z_iload_n F dX9_clear_25 rfl ?_
        refine z_aald F dX9_clear_26 (by assumption) ie re ?_
        refine z_cVv F (K_setZero hK1 hJ hS (r3 i hlt).2) dX9_clear_27 ml_X9_273 ok_X3_setZero (r3 i hlt).2 (by decide) rfl rfl rfl (Nat.le_of_ble_eq_true rfl) (by decide) (by decide) (fun S' hS' => ?_)
        obtain ⟨V2, rfl, hK2, hF2⟩ := hS'
        refine z_iinc_2 F dX9_clear_30 rfl ?_
        refine z_goto (tgt := 12) F dX9_clear_33 (by decide) ?_
        rw [show nI i + Int32.ofInt 1 = nI (i + 1) from nI_1 i]
        refine ih (i + 1) V2 _ (by omega) hK2 (hF1.trans hF2) (hT1.trans (tN.up ⟨i, hlt, rfl⟩)) (fun k hk => ?_)
        by_cases e : k = i
        · rw [e, up_self]
        · rw [up_ne _ _ (fun z => e (fde k i (by omega) hlt z))]
          exact hz k (by omega)
  refine z_aload_n F dX9_clear_0 rfl ?_
  refine z_getI F dX9_clear_1 gi_X9_85 (by assumption) ?_
  refine z_ti i2' ?_
  refine z_istore_n_1 F dX9_clear_4 rfl ?_
  refine z_aload_n F dX9_clear_5 rfl ?_
  refine z_iconst (v := nI 0) F dX9_clear_6 (by decide) ?_
  refine z_putI F dX9_clear_7 pi_X9_85 (zf_8_9 _) (by assumption) ?_
  refine z_iconst (v := nI 0) F dX9_clear_10 (by decide) ?_
  refine z_istore_n_2 F dX9_clear_11 rfl ?_
  refine z_V hV0.symm ?_
  exact loop (G.n * (G.n + 1)) 0 V0 T (by omega) hC0.1 (eF.refl Z V0) (tN.refl _ T) (fun k hk => absurd hk (Nat.not_lt_zero k))
end ROWS6
