/-! ===== FractionRows: quotient, limb, which may throw ===== -/
/-- what a call leaves that returns, that throws -/
def oOk (Z : Hz) (G : Ga) (V : Hv) (x : St × Option Int32) : Int32 → Hs → Prop := fun r S' => x.2 = some r ∧ ∃ V', S' = (Z, V') ∧ gC Z G V V' ∧ rC Z G V' x.1
def oEx (Z : Hz) (G : Ga) (V : Hv) (x : St × Option Int32) : Hs → Prop := fun S' => x.2 = none ∧ ∃ V', S' = (Z, V') ∧ gC Z G V V' ∧ rC Z G V' x.1
theorem oOk.of {Z : Hz} {G : Ga} {V : Hv} {x : St × Int32} {r : Int32} {S' : Hs} (h : oP Z G V x r S') : oOk Z G V (x.1, some x.2) r S' := ⟨by rw [h.1], h.2⟩
theorem oOk.same {Z : Hz} {G : Ga} {V : Hv} {T : Nat → Fr} {X : Nat → Nat} {s : St} {y : Int32} (h : rCT Z G V T X s) : oOk Z G V (s, some y) y (Z, V) := oOk.of (oP.same h)
theorem oEx.same {Z : Hz} {G : Ga} {V : Hv} {T : Nat → Fr} {X : Nat → Nat} {s : St} (h : rCT Z G V T X s) : oEx Z G V (s, none) (Z, V) := ⟨rfl, V, rfl, eG.refl V, T, X, h⟩
section XQ
variable {Γ : Gm} {Z : Hz} {G : Ga} {V : Hv} {T : Nat → Fr} {X : Nat → Nat} {s : St}
abbrev nAE : String := "java/lang/ArithmeticException"
abbrev nIE : String := "java/lang/IndexOutOfBoundsException"
set_option maxRecDepth 100000 in
set_option maxHeartbeats 1000000 in
theorem c_quotient (a b : Int32) (hR : xR Z G) (hC : rCT Z G V T X s) : zCtX Γ mX9_quotient 6 141 1 6 [.ref G.x, .int a, .int b] (Z, V) (pI (oOk Z G V (opQuo s a b))) nAE (oEx Z G V (opQuo s a b)) := by
  refine zCtX.of [some (.ref G.x), some (.int a), some (.int b)] pn_X9_quotient rfl (Nat.le_of_ble_eq_true rfl) rfl (fun κ F TH hx0 => ?_)
  obtain ⟨b0, b1, b2, -⟩ := hR.1
  obtain ⟨hJ, hS, hA⟩ := hR.2.1
  have hcs := hC.2.1.2.2.1
  have bad : (!isN s a || !isN s b) = true → zX Γ κ (Z, V) 0 0 (zQx Γ κ (pI (oOk Z G V (opQuo s a b))) nAE (oEx Z G V (opQuo s a b)) 1 6) 16 [some (.ref G.x), some (.int a), some (.int b)] [] := by
    intro h
    unfold opQuo
    rw [if_pos h]
    refine zX_widen (cs' := 1) (sl' := 6) (by decide) (by decide) (zX_ret ?_)
    refine z_iconst (v := (-1)) F dX9_quotient_16 (by decide) ?_
    exact z_iret F dX9_quotient_17 rfl (oOk.same hC)
  refine z_aload_n F dX9_quotient_0 rfl ?_
  refine z_iload_n F dX9_quotient_1 rfl ?_
  refine z_cVz F (c_isNumber a hR hC) dX9_quotient_2 ml_X9_96 ok_X9_isNumber b0 (by decide) rfl rfl rfl (Nat.le_of_ble_eq_true rfl) (by decide) (by decide) (fun r S' hr => ?_)
  obtain ⟨rfl, rfl⟩ := hr
  refine z_if_eq (tgt := 16) F dX9_quotient_5 (by decide) (fun c3 => ?_) (fun c3 => ?_)
  · have h3 := (zb_eq0 _).mp c3
    exact bad (by rw [h3]; rfl)
  · have h3 := zb_t c3
    refine z_aload_n F dX9_quotient_8 rfl ?_
    refine z_iload_n F dX9_quotient_9 rfl ?_
    refine z_cVz F (c_isNumber b hR hC) dX9_quotient_10 ml_X9_96 ok_X9_isNumber b0 (by decide) rfl rfl rfl (Nat.le_of_ble_eq_true rfl) (by decide) (by decide) (fun r S' hr => ?_)
    obtain ⟨rfl, rfl⟩ := hr
    refine z_if_ne (tgt := 18) F dX9_quotient_13 (by decide) (fun c4 => ?_) (fun c4 => ?_)
    · have h4 := zb_t c4
      obtain ⟨ja, hja, rfl, eja⟩ := isN_t h3 hcs
      obtain ⟨jb, hjb, rfl, ejb⟩ := isN_t h4 hcs
      obtain ⟨pa1, pa2, pa3, pa4⟩ := hR.num (show ja < 40 by omega)
      obtain ⟨pb1, pb2, pb3, pb4⟩ := hR.num (show jb < 40 by omega)
      have eTa := hC.2.2.1 ja hja
      have eTb := hC.2.2.1 jb hjb
      have hne : ¬ (!isN s (nI ja) || !isN s (nI jb)) = true := by
        rw [h3, h4]
        decide
      unfold opQuo
      rw [if_neg hne, eja, ejb]
      refine z_aload_n F dX9_quotient_18 rfl ?_
      refine z_cVz F (c_isFull hR hC) dX9_quotient_19 ml_X9_81 ok_X9_isFull b0 (by decide) rfl rfl rfl (Nat.le_of_ble_eq_true rfl) (by decide) (by decide) (fun r S' hr => ?_)
      obtain ⟨rfl, rfl⟩ := hr
      refine z_if_eq (tgt := 28) F dX9_quotient_22 (by decide) (fun c5 => ?_) (fun c5 => ?_)
      · have h5 := zb_f c5
        have h40 := full_f h5
        rw [if_neg h5]
        obtain ⟨n1, n2, n3, n4⟩ := hR.num h40
        have i2 := hC.2.1.2.1
        refine z_aload_n F dX9_quotient_28 rfl ?_
        refine z_getR F dX9_quotient_29 gr_X9_35 (by assumption) (by assumption) ?_
        refine z_iload_n F dX9_quotient_32 rfl ?_
        refine z_aald F dX9_quotient_33 (by assumption) pb1 pb2 ?_
        refine z_cVz F (K_isZero hC.1 hS pb3) dX9_quotient_34 ml_X9_100 ok_X3_isZero pb3 (by decide) rfl rfl rfl (Nat.le_of_ble_eq_true rfl) (by decide) (by decide) (fun r S' hr => ?_)
        obtain ⟨rfl, rfl⟩ := hr
        rw [eTb]
        refine z_if_eq (tgt := 50) F dX9_quotient_37 (by decide) (fun c7 => ?_) (fun c7 => ?_)
        · have hz := dz_f c7
          rw [if_neg hz]
          refine zX_widen (cs' := 1) (sl' := 6) (by decide) (by decide) (zX_ret ?_)
          refine z_aload_n F dX9_quotient_50 rfl ?_
          refine z_aload_n F dX9_quotient_51 rfl ?_
          refine z_getR F dX9_quotient_52 gr_X9_25 (by assumption) (by assumption) ?_
          refine z_aload_n F dX9_quotient_55 rfl ?_
          refine z_getR F dX9_quotient_56 gr_X9_35 (by assumption) (by assumption) ?_
          refine z_iload_n F dX9_quotient_59 rfl ?_
          refine z_aald F dX9_quotient_60 (by assumption) pa1 pa2 ?_
          refine z_aload_n F dX9_quotient_61 rfl ?_
          refine z_getR F dX9_quotient_62 gr_X9_35 (by assumption) (by assumption) ?_
          refine z_iload_n F dX9_quotient_65 rfl ?_
          refine z_aald F dX9_quotient_66 (by assumption) pb1 pb2 ?_
          refine z_iconst (v := nI 1) F dX9_quotient_67 (by decide) ?_
          refine z_aload_n F dX9_quotient_68 rfl ?_
          refine z_getR F dX9_quotient_69 gr_X9_35 (by assumption) (by assumption) ?_
          refine z_aload_n F dX9_quotient_72 rfl ?_
          refine z_getI F dX9_quotient_73 gi_X9_85 (by assumption) ?_
          refine z_ti i2 ?_
          refine z_aald F dX9_quotient_76 (by assumption) n1 n2 ?_
          refine z_cVz F (K_multiply (d := true) hC.1 hJ hA hS pa3 pb3 n3 (fun _ => by rw [eTb]; exact hz)) dX9_quotient_77 ml_X9_107 ok_X0_multiply hA.1 (by decide) rfl rfl rfl (Nat.le_of_ble_eq_true rfl) (by decide) (by decide) (fun r S' hr => ?_)
          obtain ⟨hr1, V1, rfl, hK1, hF1⟩ := hr
          rw [eTa, eTb] at hr1 hK1
          generalize fmul (tn s ja) (tn s jb) true = y at hr1 hK1 ⊢
          by_cases hw : wideB y = true
          · rw [upW_t hw] at hK1
            have hC1 := rCT.up hR hC h40 hK1 hF1
            refine z_cVi F (c_keep hR hC1 (fun _ => h40)) dX9_quotient_80 ml_X9_92 ok_X9_keep b0 (by decide) rfl rfl rfl (Nat.le_of_ble_eq_true rfl) (by decide) (by decide) (fun r2 S' hr2 => ?_)
            rw [keepO_w hr1 _ (fun _ => up_self _ _ _)] at hr2
            exact z_iret F dX9_quotient_83 rfl (oOk.of (oP.after (gC.ofF hF1) hr2))
          · rw [upW_f hw] at hK1
            have hC1 := hC.view hK1 (vEq.ofF hR hF1) (tEq.refl G s T) (xEq.refl G X)
            refine z_cVi F (c_keep hR hC1 (fun _ => h40)) dX9_quotient_80 ml_X9_92 ok_X9_keep b0 (by decide) rfl rfl rfl (Nat.le_of_ble_eq_true rfl) (by decide) (by decide) (fun r2 S' hr2 => ?_)
            rw [keepO_w hr1 _ (fun z => absurd z hw)] at hr2
            exact z_iret F dX9_quotient_83 rfl (oOk.of (oP.after (gC.ofF hF1) hr2))
        · have hz := dz_t c7
          rw [if_pos hz]
          exact z_throw (text := "the divisor is 0") F TH hx0 rfl (by decide) (by decide) cl_110 in_ae (by decide +kernel) at_114 dX9_quotient_40 dX9_quotient_43 dX9_quotient_44 dX9_quotient_46 dX9_quotient_49 rfl (by decide) (by decide) (by decide) (by decide) (oEx.same hC)
      · have h5 := zb_t c5
        rw [if_pos h5]
        refine zX_widen (cs' := 1) (sl' := 6) (by decide) (by decide) (zX_ret ?_)
        refine z_bipush (v := (-4)) F dX9_quotient_25 (by decide) ?_
        exact z_iret F dX9_quotient_27 rfl (oOk.same hC)
    · have h4 := (zb_eq0 _).mp c4
      refine zX_widen (cs' := 0) (sl' := 0) (by decide) (by decide) ?_
      exact bad (by rw [h4]; simp)
theorem opLimb_n {a part k : Int32} (h : ¬ isN s a = true) : opLimb s a part k = none := if_neg (fun z => h z.1)
theorem opLimb_p {a part k : Int32} (h : ¬ (part = 0 ∨ part = 1)) : opLimb s a part k = none := if_neg (fun z => h z.2.1)
theorem opLimb_k {a part k : Int32} {ja Y : Nat} (h : isN s a = true) (e : an a = ja) (hp : part = 0 ∨ part = 1) (hY : Y = if part = 0 then (tn s ja).2.1 else (tn s ja).2.2) : opLimb s a part k = if inI k (nl Y) = true then some (nI (Y / 4294967296 ^ an k % 4294967296)) else none := by
  unfold opLimb
  rw [e, ← hY]
  by_cases c : inI k (nl Y) = true
  · rw [if_pos ⟨h, hp, c⟩, if_pos c]
  · rw [if_neg (fun z => c z.2.2), if_neg c]
set_option maxRecDepth 100000 in
set_option maxHeartbeats 1000000 in
theorem c_limb (a part k : Int32) (hR : xR Z G) (hC : rCT Z G V T X s) : zCtX Γ mX9_limb 6 82 1 6 [.ref G.x, .int a, .int part, .int k] (Z, V) (pI (oOk Z G V (s, opLimb s a part k))) nIE (oEx Z G V (s, opLimb s a part k)) := by
  refine zCtX.of [some (.ref G.x), some (.int a), some (.int part), some (.int k), none] pn_X9_limb rfl (Nat.le_of_ble_eq_true rfl) rfl (fun κ F TH hx0 => ?_)
  obtain ⟨b0, b1, b2, -⟩ := hR.1
  obtain ⟨hJ, hS, hA⟩ := hR.2.1
  have hcs := hC.2.1.2.2.1
  refine z_aload_n F dX9_limb_0 rfl ?_
  refine z_iload_n F dX9_limb_1 rfl ?_
  refine z_cVz F (c_isNumber a hR hC) dX9_limb_2 ml_X9_96 ok_X9_isNumber b0 (by decide) rfl rfl rfl (Nat.le_of_ble_eq_true rfl) (by decide) (by decide) (fun r S' hr => ?_)
  obtain ⟨rfl, rfl⟩ := hr
  refine z_if_ne (tgt := 18) F dX9_limb_5 (by decide) (fun c => ?_) (fun c => ?_)
  · have h := zb_t c
    obtain ⟨ja, hja, rfl, eja⟩ := isN_t h hcs
    obtain ⟨pa1, pa2, pa3, pa4⟩ := hR.num (show ja < 40 by omega)
    obtain ⟨f1, f2, f3, f4, f5⟩ := (hS.1 _ pa3).1
    obtain ⟨k1, k2, k3, ⟨gu, hu, hu2⟩, gv, hv, hv2⟩ := hC.1.whole hS pa3
    have eT := hC.2.2.1 ja hja
    rw [eT] at hu2 hv2
    have go : ∀ o g Y, (part = 0 ∨ part = 1) → (Y = if part = 0 then (tn s ja).2.1 else (tn s ja).2.2) → wh Z o g → vv V o g Y → zX Γ κ (Z, V) 0 0 (zQx Γ κ (pI (oOk Z G V (s, opLimb s (nI ja) part k))) nIE (oEx Z G V (s, opLimb s (nI ja) part k)) 1 6) 62 [some (.ref G.x), some (.int (nI ja)), some (.int part), some (.int k), none] [.ref o] := by
      intro o g Y hp hY hw hv
      have ow := hw.1
      have i1 : vI V 7 1 o = nI (nl Y) := hv.2
      have i16 := hv.len
      rw [opLimb_k h eja hp hY]
      have bad : ¬ inI k (nl Y) = true → zX Γ κ (Z, V) 0 0 (zQx Γ κ (pI (oOk Z G V (s, if inI k (nl Y) = true then some (nI (Y / 4294967296 ^ an k % 4294967296)) else none))) nIE (oEx Z G V (s, if inI k (nl Y) = true then some (nI (Y / 4294967296 ^ an k % 4294967296)) else none)) 1 6) 77 [some (.ref G.x), some (.int (nI ja)), some (.int part), some (.int k), some (.ref o)] [] := by
        intro hb
        rw [if_neg hb]
        exact z_throw (text := "no such limb") F TH hx0 rfl (by decide) (by decide) cl_141 in_ie (by decide +kernel) at_145 dX9_limb_77 dX9_limb_80 dX9_limb_81 dX9_limb_83 dX9_limb_86 rfl (by decide) (by decide) (by decide) (by decide) (oEx.same hC)
      refine z_astore_4 F dX9_limb_62 rfl ?_
      refine z_iload_n F dX9_limb_64 rfl ?_
      refine z_if_lt (tgt := 77) F dX9_limb_65 (by decide) (fun c1 => ?_) (fun c1 => ?_)
      · refine bad (fun z => ?_)
        unfold inI at z
        simp only [Bool.and_eq_true, decide_eq_true_eq] at z
        have h1 := Int32.lt_iff_toInt_lt.mp c1
        have h2 := Int32.le_iff_toInt_le.mp z.1
        omega
      · refine z_iload_n F dX9_limb_68 rfl ?_
        refine z_aload F dX9_limb_69 rfl ?_
        refine z_getI F dX9_limb_71 gi_X9_129 (by assumption) ?_
        refine z_ti i1 ?_
        refine z_icmp_lt (tgt := 87) F dX9_limb_74 (by decide) (fun c2 => ?_) (fun c2 => ?_)
        · have hin : inI k (nl Y) = true := by
            unfold inI
            rw [decide_eq_true c2, decide_eq_true (show (0 : Int32) ≤ k from by
              have h1 := mt Int32.lt_iff_toInt_lt.mpr c1
              exact Int32.le_iff_toInt_le.mpr (by omega))]
            rfl
          obtain ⟨j, hj, rfl, ej⟩ := inI_t hin (by omega)
          rw [if_pos hin, ej]
          have hin2 : vp_in (nI j) (zn Z g) := by rw [hw.2.2.2]; exact vp_in_nI (by omega) (by decide)
          have og := hw.2.2.1
          have og2 := hw.2.1
          have e9 : vA V g (nI j).toNatClampNeg = nI (Y / 4294967296 ^ j % 4294967296) := by rw [nI_clamp (by omega)]; exact hv.limb (by omega)
          refine zX_widen (cs' := 1) (sl' := 6) (by decide) (by decide) (zX_ret ?_)
          refine z_aload F dX9_limb_87 rfl ?_
          refine z_getR F dX9_limb_89 gr_X9_150 (by assumption) (by assumption) ?_
          refine z_iload_n F dX9_limb_92 rfl ?_
          refine z_iald F dX9_limb_93 (by assumption) hin2 ?_
          refine z_ti e9 ?_
          exact z_iret F dX9_limb_94 rfl (oOk.same hC)
        · refine bad (fun z => ?_)
          unfold inI at z
          simp only [Bool.and_eq_true, decide_eq_true_eq] at z
          exact c2 z.2
    have mid : (part = 0 ∨ part = 1) → zX Γ κ (Z, V) 0 0 (zQx Γ κ (pI (oOk Z G V (s, opLimb s (nI ja) part k))) nIE (oEx Z G V (s, opLimb s (nI ja) part k)) 1 6) 37 [some (.ref G.x), some (.int (nI ja)), some (.int part), some (.int k), none] [] := by
      intro hp
      refine z_iload_n F dX9_limb_37 rfl ?_
      refine z_if_ne (tgt := 53) F dX9_limb_38 (by decide) (fun c3 => ?_) (fun c3 => ?_)
      · refine z_aload_n F dX9_limb_53 rfl ?_
        refine z_getR F dX9_limb_54 gr_X9_35 (by assumption) (by assumption) ?_
        refine z_iload_n F dX9_limb_57 rfl ?_
        refine z_aald F dX9_limb_58 (by assumption) pa1 pa2 ?_
        refine z_getR F dX9_limb_59 gr_X9_134 (by assumption) (by assumption) ?_
        exact go _ _ _ hp (if_neg c3).symm hv hv2
      · refine z_aload_n F dX9_limb_41 rfl ?_
        refine z_getR F dX9_limb_42 gr_X9_35 (by assumption) (by assumption) ?_
        refine z_iload_n F dX9_limb_45 rfl ?_
        refine z_aald F dX9_limb_46 (by assumption) pa1 pa2 ?_
        refine z_getR F dX9_limb_47 gr_X9_125 (by assumption) (by assumption) ?_
        refine z_goto (tgt := 62) F dX9_limb_50 (by decide) ?_
        exact go _ _ _ hp (if_pos c3).symm hu hu2
    refine z_iload_n F dX9_limb_18 rfl ?_
    refine z_if_eq (tgt := 37) F dX9_limb_19 (by decide) (fun c4 => ?_) (fun c4 => ?_)
    · exact mid (Or.inl c4)
    · refine z_iload_n F dX9_limb_22 rfl ?_
      refine z_iconst (v := nI 1) F dX9_limb_23 (by decide) ?_
      refine z_icmp_eq (tgt := 37) F dX9_limb_24 (by decide) (fun c5 => ?_) (fun c5 => ?_)
      · exact mid (Or.inr c5)
      · rw [opLimb_p (fun z => z.elim c4 c5)]
        exact z_throw (text := "no such part") F TH hx0 rfl (by decide) (by decide) cl_141 in_ie (by decide +kernel) at_145 dX9_limb_27 dX9_limb_30 dX9_limb_31 dX9_limb_33 dX9_limb_36 rfl (by decide) (by decide) (by decide) (by decide) (oEx.same hC)
  · have h := zb_f c
    rw [opLimb_n h]
    exact z_throw (text := "no such number") F TH hx0 rfl (by decide) (by decide) cl_141 in_ie (by decide +kernel) at_145 dX9_limb_8 dX9_limb_11 dX9_limb_12 dX9_limb_14 dX9_limb_17 rfl (by decide) (by decide) (by decide) (by decide) (oEx.same hC)
end XQ
