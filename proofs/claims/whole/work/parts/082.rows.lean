/-! ===== FractionRows: numbers ===== -/
theorem l0_iff (x : Int64) : x = 0 ↔ x.toInt.natAbs = 0 := by
  rw [show (0 : Int64) = lN 0 from rfl]
  exact i64_0 x
section NUM
variable {Γ : Gm} {Z : Hz} {G : Ga} {V : Hv} {T : Nat → Fr} {X : Nat → Nat} {s : St}
theorem isN_t {a : Int32} (h : isN s a = true) (hs : tc s ≤ 40) : ∃ j, j < tc s ∧ a = nI j ∧ an a = j := inI_t h (by omega)
theorem rCT.up {V1 : Hv} {y : Fr} (hR : xR Z G) (hC : rCT Z G V T X s) (h40 : tc s < 40) (hK : KS Z G.uo G.vo G.w V1 (va_up T (G.nu (tc s)) y) X) (hF : eF Z V V1) : rCT Z G V1 (va_up T (G.nu (tc s)) y) X s := hC.view hK (vEq.ofF hR hF) (tEq.up hR (Or.inl ⟨h40, rfl⟩) (by omega)) (xEq.refl G X)
theorem full_f (h : ¬ full s = true) : tc s < 40 := Nat.lt_of_not_le (fun z => h (decide_eq_true z))
set_option maxRecDepth 100000 in
theorem c_value (u v : Int64) (hR : xR Z G) (hC : rCT Z G V T X s) : zCt Γ mX9_value 5 140 0 0 [.ref G.x, .long u, .long v] (Z, V) (pI (oP Z G V (opValue s u v))) := by
  refine zCt.of [some (.ref G.x), some (.long u), none, some (.long v), none] pn_X9_value rfl (Nat.le_of_ble_eq_true rfl) rfl (fun κ F => ?_)
  obtain ⟨b0, b1, b2, -⟩ := hR.1
  obtain ⟨hJ, hS, hA⟩ := hR.2.1
  unfold opValue keepC
  refine z_lload_n F dX9_value_0 rfl ?_
  refine z_lconst (v := lN 0) F dX9_value_1 (by decide) ?_
  refine z_lcmp F dX9_value_2 ?_
  refine z_if_ne (tgt := 9) F dX9_value_3 (by decide) (fun c => ?_) (fun c => ?_)
  · have hv : ¬ v = 0 := fun z => c ((lg_cmp_eq _ _).mpr z)
    rw [if_neg hv]
    refine z_aload_n F dX9_value_9 rfl ?_
    refine z_cVz F (c_isFull hR hC) dX9_value_10 ml_X9_81 ok_X9_isFull b0 (by decide) rfl rfl rfl (Nat.le_of_ble_eq_true rfl) (by decide) (by decide) (fun r S' hr => ?_)
    obtain ⟨rfl, rfl⟩ := hr
    refine z_if_eq (tgt := 19) F dX9_value_13 (by decide) (fun c2 => ?_) (fun c2 => ?_)
    · have h := zb_f c2
      have h40 := full_f h
      rw [if_neg h]
      obtain ⟨n1, n2, n3, n4⟩ := hR.num h40
      have i2 := hC.2.1.2.1
      refine z_aload_n F dX9_value_19 rfl ?_
      refine z_getR F dX9_value_20 gr_X9_25 (by assumption) (by assumption) ?_
      refine z_lload_n F dX9_value_23 rfl ?_
      refine z_lload_n F dX9_value_24 rfl ?_
      refine z_aload_n F dX9_value_25 rfl ?_
      refine z_getR F dX9_value_26 gr_X9_35 (by assumption) (by assumption) ?_
      refine z_aload_n F dX9_value_29 rfl ?_
      refine z_getI F dX9_value_30 gi_X9_85 (by assumption) ?_
      refine z_ti i2 ?_
      refine z_aald F dX9_value_33 (by assumption) n1 n2 ?_
      refine z_cVv F (K_setRatio hC.1 hJ hA hS n3 (fun z => hv ((l0_iff v).mpr z))) dX9_value_34 ml_X9_88 ok_X0_setRatio hA.1 (by decide) rfl rfl rfl (Nat.le_of_ble_eq_true rfl) (by decide) (by decide) (fun S' hS' => ?_)
      obtain ⟨V1, rfl, hK1, hF1⟩ := hS'
      have hC1 := rCT.up hR hC h40 hK1 hF1
      refine z_aload_n F dX9_value_37 rfl ?_
      refine z_iconst (v := nI 1) F dX9_value_38 (by decide) ?_
      refine z_cVi F (c_keep (b := true) hR hC1 (fun _ => h40)) dX9_value_39 ml_X9_92 ok_X9_keep b0 (by decide) rfl rfl rfl (Nat.le_of_ble_eq_true rfl) (by decide) (by decide) (fun r S' hr => ?_)
      rw [if_pos rfl, up_self] at hr
      exact z_iret F dX9_value_42 rfl (oP.after (gC.ofF hF1) hr)
    · have h := zb_t c2
      rw [if_pos h]
      refine z_bipush (v := (-4)) F dX9_value_16 (by decide) ?_
      exact z_iret F dX9_value_18 rfl (oP.same hC)
  · have hv : v = 0 := (lg_cmp_eq _ _).mp c
    rw [if_pos hv]
    refine z_bipush (v := (-2)) F dX9_value_6 (by decide) ?_
    exact z_iret F dX9_value_8 rfl (oP.same hC)
/-- keeping what an operation made, if it is WIDE -/
theorem keepO_w {y : Fr} {b : Bool} (hb : b = wideB y) (x : Fr) (hx : wideB y = true → x = y) : (if b = true then keepF s x else grewF s) = keepO s (wO y) := by
  unfold wO
  by_cases h : wideB y = true
  · rw [hb, if_pos h, if_pos h, hx h]; rfl
  · rw [hb, if_neg h, if_neg h]; rfl
set_option maxRecDepth 100000 in
set_option maxHeartbeats 1000000 in
theorem c_act (op a b : Int32) (hR : xR Z G) (hC : rCT Z G V T X s) : zCt Γ mX9_act 5 141 0 0 [.ref G.x, .int op, .int a, .int b] (Z, V) (pI (oP Z G V (opAct s op a b))) := by
  refine zCt.of [some (.ref G.x), some (.int op), some (.int a), some (.int b), none] pn_X9_act rfl (Nat.le_of_ble_eq_true rfl) rfl (fun κ F => ?_)
  obtain ⟨b0, b1, b2, -⟩ := hR.1
  obtain ⟨hJ, hS, hA⟩ := hR.2.1
  have hcs := hC.2.1.2.2.1
  have bad : (decide (op < 0) || decide (3 < op) || !isN s a || !isN s b) = true → zX Γ κ (Z, V) 0 0 (zQ Γ κ (pI (oP Z G V (opAct s op a b))) 0 0) 25 [some (.ref G.x), some (.int op), some (.int a), some (.int b), none] [] := by
    intro h
    unfold opAct
    rw [if_pos h]
    refine z_iconst (v := (-1)) F dX9_act_25 (by decide) ?_
    exact z_iret F dX9_act_26 rfl (oP.same hC)
  refine z_iload_n F dX9_act_0 rfl ?_
  refine z_if_lt (tgt := 25) F dX9_act_1 (by decide) (fun c1 => ?_) (fun c1 => ?_)
  · exact bad (by rw [decide_eq_true (show op < 0 from c1)]; rfl)
  · refine z_iload_n F dX9_act_4 rfl ?_
    refine z_iconst (v := nI 3) F dX9_act_5 (by decide) ?_
    refine z_icmp_gt (tgt := 25) F dX9_act_6 (by decide) (fun c2 => ?_) (fun c2 => ?_)
    · exact bad (by rw [decide_eq_true (show (3 : Int32) < op from c2)]; simp)
    · refine z_aload_n F dX9_act_9 rfl ?_
      refine z_iload_n F dX9_act_10 rfl ?_
      refine z_cVz F (c_isNumber a hR hC) dX9_act_11 ml_X9_96 ok_X9_isNumber b0 (by decide) rfl rfl rfl (Nat.le_of_ble_eq_true rfl) (by decide) (by decide) (fun r S' hr => ?_)
      obtain ⟨rfl, rfl⟩ := hr
      refine z_if_eq (tgt := 25) F dX9_act_14 (by decide) (fun c3 => ?_) (fun c3 => ?_)
      · have h3 := (zb_eq0 _).mp c3
        exact bad (by rw [h3]; simp)
      · have h3 := zb_t c3
        refine z_aload_n F dX9_act_17 rfl ?_
        refine z_iload_n F dX9_act_18 rfl ?_
        refine z_cVz F (c_isNumber b hR hC) dX9_act_19 ml_X9_96 ok_X9_isNumber b0 (by decide) rfl rfl rfl (Nat.le_of_ble_eq_true rfl) (by decide) (by decide) (fun r S' hr => ?_)
        obtain ⟨rfl, rfl⟩ := hr
        refine z_if_ne (tgt := 27) F dX9_act_22 (by decide) (fun c4 => ?_) (fun c4 => ?_)
        · have h4 := zb_t c4
          obtain ⟨ja, hja, rfl, eja⟩ := isN_t h3 hcs
          obtain ⟨jb, hjb, rfl, ejb⟩ := isN_t h4 hcs
          obtain ⟨pa1, pa2, pa3, pa4⟩ := hR.num (show ja < 40 by omega)
          obtain ⟨pb1, pb2, pb3, pb4⟩ := hR.num (show jb < 40 by omega)
          have eTa := hC.2.2.1 ja hja
          have eTb := hC.2.2.1 jb hjb
          have hne : ¬ (decide (op < 0) || decide (3 < op) || !isN s (nI ja) || !isN s (nI jb)) = true := by
            rw [decide_eq_false (show ¬ op < 0 from c1), decide_eq_false (show ¬ (3 : Int32) < op from c2), h3, h4]
            decide
          unfold opAct
          rw [if_neg hne, eja, ejb]
          refine z_aload_n F dX9_act_27 rfl ?_
          refine z_cVz F (c_isFull hR hC) dX9_act_28 ml_X9_81 ok_X9_isFull b0 (by decide) rfl rfl rfl (Nat.le_of_ble_eq_true rfl) (by decide) (by decide) (fun r S' hr => ?_)
          obtain ⟨rfl, rfl⟩ := hr
          refine z_if_eq (tgt := 37) F dX9_act_31 (by decide) (fun c5 => ?_) (fun c5 => ?_)
          · have h5 := zb_f c5
            have h40 := full_f h5
            rw [if_neg h5]
            obtain ⟨n1, n2, n3, n4⟩ := hR.num h40
            have i2 := hC.2.1.2.1
            -- the operation
            have go : (op = 3 → (tn s jb).2.1 ≠ 0) → zX Γ κ (Z, V) 0 0 (zQ Γ κ (pI (oP Z G V (if op = 3 ∧ (tn s jb).2.1 = 0 then (s, -2) else keepO s (wO (opF op (tn s ja) (tn s jb)))))) 0 0) 57 [some (.ref G.x), some (.int op), some (.int (nI ja)), some (.int (nI jb)), none] [] := by
              intro hz
              rw [if_neg (fun z => hz z.1 z.2)]
              refine z_aload_n F dX9_act_57 rfl ?_
              refine z_getR F dX9_act_58 gr_X9_35 (by assumption) (by assumption) ?_
              refine z_aload_n F dX9_act_61 rfl ?_
              refine z_getI F dX9_act_62 gi_X9_85 (by assumption) ?_
              refine z_ti i2 ?_
              refine z_aald F dX9_act_65 (by assumption) n1 n2 ?_
              refine z_astore_4 F dX9_act_66 rfl ?_
              refine z_iload_n F dX9_act_68 rfl ?_
              refine z_iconst (v := nI 2) F dX9_act_69 (by decide) ?_
              refine z_icmp_ge (tgt := 109) F dX9_act_70 (by decide) (fun c6 => ?_) (fun c6 => ?_)
              · have ho : ¬ op < 2 := fun z => by
                  have h1 := Int32.lt_iff_toInt_lt.mp z
                  have h2 := Int32.le_iff_toInt_le.mp c6
                  have e : (nI 2).toInt = (2 : Int32).toInt := rfl
                  omega
                have mul : ∀ d : Bool, d = decide (op = 3) → zX Γ κ (Z, V) 0 0 (zQ Γ κ (pI (oP Z G V (keepO s (wO (opF op (tn s ja) (tn s jb)))))) 0 0) 136 [some (.ref G.x), some (.int op), some (.int (nI ja)), some (.int (nI jb)), some (.ref (G.nu (tc s)))] [.int (zb d), .ref (G.nu jb), .ref (G.nu ja), .ref G.A, .ref G.x] := by
                  intro d hd
                  have hopf : opF op (tn s ja) (tn s jb) = fmul (tn s ja) (tn s jb) d := by unfold opF; rw [if_neg ho, hd]
                  refine z_aload F dX9_act_136 rfl ?_
                  refine z_cVz F (K_multiply (d := d) hC.1 hJ hA hS pa3 pb3 n3 (fun h => by rw [eTb]; exact hz (of_decide_eq_true (hd ▸ h)))) dX9_act_138 ml_X9_107 ok_X0_multiply hA.1 (by decide) rfl rfl rfl (Nat.le_of_ble_eq_true rfl) (by decide) (by decide) (fun r S' hr => ?_)
                  obtain ⟨hr1, V1, rfl, hK1, hF1⟩ := hr
                  rw [eTa, eTb, ← hopf] at hr1 hK1
                  generalize opF op (tn s ja) (tn s jb) = y at hr1 hK1 ⊢
                  by_cases hw : wideB y = true
                  · rw [upW_t hw] at hK1
                    have hC1 := rCT.up hR hC h40 hK1 hF1
                    refine z_cVi F (c_keep hR hC1 (fun _ => h40)) dX9_act_141 ml_X9_92 ok_X9_keep b0 (by decide) rfl rfl rfl (Nat.le_of_ble_eq_true rfl) (by decide) (by decide) (fun r2 S' hr2 => ?_)
                    rw [keepO_w hr1 _ (fun _ => up_self _ _ _)] at hr2
                    exact z_iret F dX9_act_144 rfl (oP.after (gC.ofF hF1) hr2)
                  · rw [upW_f hw] at hK1
                    have hC1 := hC.view hK1 (vEq.ofF hR hF1) (tEq.refl G s T) (xEq.refl G X)
                    refine z_cVi F (c_keep hR hC1 (fun _ => h40)) dX9_act_141 ml_X9_92 ok_X9_keep b0 (by decide) rfl rfl rfl (Nat.le_of_ble_eq_true rfl) (by decide) (by decide) (fun r2 S' hr2 => ?_)
                    rw [keepO_w hr1 _ (fun z => absurd z hw)] at hr2
                    exact z_iret F dX9_act_144 rfl (oP.after (gC.ofF hF1) hr2)
                refine z_aload_n F dX9_act_109 rfl ?_
                refine z_aload_n F dX9_act_110 rfl ?_
                refine z_getR F dX9_act_111 gr_X9_25 (by assumption) (by assumption) ?_
                refine z_aload_n F dX9_act_114 rfl ?_
                refine z_getR F dX9_act_115 gr_X9_35 (by assumption) (by assumption) ?_
                refine z_iload_n F dX9_act_118 rfl ?_
                refine z_aald F dX9_act_119 (by assumption) pa1 pa2 ?_
                refine z_aload_n F dX9_act_120 rfl ?_
                refine z_getR F dX9_act_121 gr_X9_35 (by assumption) (by assumption) ?_
                refine z_iload_n F dX9_act_124 rfl ?_
                refine z_aald F dX9_act_125 (by assumption) pb1 pb2 ?_
                refine z_iload_n F dX9_act_126 rfl ?_
                refine z_iconst (v := nI 3) F dX9_act_127 (by decide) ?_
                refine z_icmp_ne (tgt := 135) F dX9_act_128 (by decide) (fun c7 => ?_) (fun c7 => ?_)
                · refine z_iconst (v := nI 0) F dX9_act_135 (by decide) ?_
                  exact mul false (decide_eq_false (fun z => c7 (by rw [z]; rfl))).symm
                · refine z_iconst (v := nI 1) F dX9_act_131 (by decide) ?_
                  refine z_goto (tgt := 136) F dX9_act_132 (by decide) ?_
                  exact mul true (decide_eq_true (by rw [show op = nI 3 from c7]; rfl)).symm
              · have ho : op < 2 := by
                  have h2 := mt Int32.le_iff_toInt_le.mpr c6
                  have e : (nI 2).toInt = (2 : Int32).toInt := rfl
                  exact Int32.lt_iff_toInt_lt.mpr (by omega)
                have add : ∀ d : Bool, d = decide (op = 1) → zX Γ κ (Z, V) 0 0 (zQ Γ κ (pI (oP Z G V (keepO s (wO (opF op (tn s ja) (tn s jb)))))) 0 0) 100 [some (.ref G.x), some (.int op), some (.int (nI ja)), some (.int (nI jb)), some (.ref (G.nu (tc s)))] [.int (zb d), .ref (G.nu jb), .ref (G.nu ja), .ref G.A, .ref G.x] := by
                  intro d hd
                  have hopf : opF op (tn s ja) (tn s jb) = fadd (tn s ja) (tn s jb) d := by unfold opF; rw [if_pos ho, hd]
                  refine z_aload F dX9_act_100 rfl ?_
                  refine z_cVz F (K_add (d := d) hC.1 hJ hA hS pa3 pb3 n3) dX9_act_102 ml_X9_103 ok_X0_add hA.1 (by decide) rfl rfl rfl (Nat.le_of_ble_eq_true rfl) (by decide) (by decide) (fun r S' hr => ?_)
                  obtain ⟨hr1, V1, rfl, hK1, hF1⟩ := hr
                  rw [eTa, eTb, ← hopf] at hr1 hK1
                  generalize opF op (tn s ja) (tn s jb) = y at hr1 hK1 ⊢
                  by_cases hw : wideB y = true
                  · rw [upW_t hw] at hK1
                    have hC1 := rCT.up hR hC h40 hK1 hF1
                    refine z_cVi F (c_keep hR hC1 (fun _ => h40)) dX9_act_105 ml_X9_92 ok_X9_keep b0 (by decide) rfl rfl rfl (Nat.le_of_ble_eq_true rfl) (by decide) (by decide) (fun r2 S' hr2 => ?_)
                    rw [keepO_w hr1 _ (fun _ => up_self _ _ _)] at hr2
                    exact z_iret F dX9_act_108 rfl (oP.after (gC.ofF hF1) hr2)
                  · rw [upW_f hw] at hK1
                    have hC1 := hC.view hK1 (vEq.ofF hR hF1) (tEq.refl G s T) (xEq.refl G X)
                    refine z_cVi F (c_keep hR hC1 (fun _ => h40)) dX9_act_105 ml_X9_92 ok_X9_keep b0 (by decide) rfl rfl rfl (Nat.le_of_ble_eq_true rfl) (by decide) (by decide) (fun r2 S' hr2 => ?_)
                    rw [keepO_w hr1 _ (fun z => absurd z hw)] at hr2
                    exact z_iret F dX9_act_108 rfl (oP.after (gC.ofF hF1) hr2)
                refine z_aload_n F dX9_act_73 rfl ?_
                refine z_aload_n F dX9_act_74 rfl ?_
                refine z_getR F dX9_act_75 gr_X9_25 (by assumption) (by assumption) ?_
                refine z_aload_n F dX9_act_78 rfl ?_
                refine z_getR F dX9_act_79 gr_X9_35 (by assumption) (by assumption) ?_
                refine z_iload_n F dX9_act_82 rfl ?_
                refine z_aald F dX9_act_83 (by assumption) pa1 pa2 ?_
                refine z_aload_n F dX9_act_84 rfl ?_
                refine z_getR F dX9_act_85 gr_X9_35 (by assumption) (by assumption) ?_
                refine z_iload_n F dX9_act_88 rfl ?_
                refine z_aald F dX9_act_89 (by assumption) pb1 pb2 ?_
                refine z_iload_n F dX9_act_90 rfl ?_
                refine z_iconst (v := nI 1) F dX9_act_91 (by decide) ?_
                refine z_icmp_ne (tgt := 99) F dX9_act_92 (by decide) (fun c7 => ?_) (fun c7 => ?_)
                · refine z_iconst (v := nI 0) F dX9_act_99 (by decide) ?_
                  exact add false (decide_eq_false (fun z => c7 (by rw [z]; rfl))).symm
                · refine z_iconst (v := nI 1) F dX9_act_95 (by decide) ?_
                  refine z_goto (tgt := 100) F dX9_act_96 (by decide) ?_
                  exact add true (decide_eq_true (by rw [show op = nI 1 from c7]; rfl)).symm
            refine z_iload_n F dX9_act_37 rfl ?_
            refine z_iconst (v := nI 3) F dX9_act_38 (by decide) ?_
            refine z_icmp_ne (tgt := 57) F dX9_act_39 (by decide) (fun c6 => ?_) (fun c6 => ?_)
            · exact go (fun z => absurd (by rw [z]; rfl) c6)
            · have h6 : op = 3 := c6
              refine z_aload_n F dX9_act_42 rfl ?_
              refine z_getR F dX9_act_43 gr_X9_35 (by assumption) (by assumption) ?_
              refine z_iload_n F dX9_act_46 rfl ?_
              refine z_aald F dX9_act_47 (by assumption) pb1 pb2 ?_
              refine z_cVz F (K_isZero hC.1 hS pb3) dX9_act_48 ml_X9_100 ok_X3_isZero pb3 (by decide) rfl rfl rfl (Nat.le_of_ble_eq_true rfl) (by decide) (by decide) (fun r S' hr => ?_)
              obtain ⟨rfl, rfl⟩ := hr
              rw [eTb]
              refine z_if_eq (tgt := 57) F dX9_act_51 (by decide) (fun c7 => ?_) (fun c7 => ?_)
              · exact go (fun _ => dz_f c7)
              · rw [if_pos ⟨h6, dz_t c7⟩]
                refine z_bipush (v := (-2)) F dX9_act_54 (by decide) ?_
                exact z_iret F dX9_act_56 rfl (oP.same hC)
          · have h5 := zb_t c5
            rw [if_pos h5]
            refine z_bipush (v := (-4)) F dX9_act_34 (by decide) ?_
            exact z_iret F dX9_act_36 rfl (oP.same hC)
        · have h4 := (zb_eq0 _).mp c4
          exact bad (by rw [h4]; simp)
set_option maxRecDepth 100000 in
theorem c_drop (hR : xR Z G) (hC : rCT Z G V T X s) : zCt Γ mX9_drop 0 0 0 0 [.ref G.x] (Z, V) (pI (oP Z G V (opDrop s))) := by
  refine zCt.of [some (.ref G.x)] pn_X9_drop rfl (Nat.le_of_ble_eq_true rfl) rfl (fun κ F => ?_)
  have b0 := hR.1.1
  have hcs := hC.2.1.2.2.1
  have i2' := hC.2.1.2.1
  unfold opDrop
  refine z_aload_n F dX9_drop_0 rfl ?_
  refine z_getI F dX9_drop_1 gi_X9_85 (by assumption) ?_
  refine z_ti i2' ?_
  refine z_if_ne (tgt := 10) F dX9_drop_4 (by decide) (fun c => ?_) (fun c => ?_)
  · have h : ¬ tc s = 0 := fun z => c ((nI_ne0' (by omega)).mpr z)
    rw [if_neg h]
    obtain ⟨hK, ⟨i1, i2, i3, i4, i5, i6⟩, hn, hm, hs, hj, hy⟩ := hC
    have fin : rC Z G (sI V 8 9 G.x (nI (tc s - 1))) (tc s - 1, s.2) := by
      refine ⟨T, X, hK.setI8, ⟨?_, vI_sI_self _ _ _ _ _, ?_, ?_, i5, i6⟩, fun i hi => hn i ?_, hm, hs, hj, hy⟩
      · rw [vI_sI_ne _ _ (fun z => absurd z.2.1 (by decide))]; exact i1
      · show tc s - 1 ≤ 40
        omega
      · rw [vI_sI_ne _ _ (fun z => absurd z.2.1 (by decide))]; exact i4
      · have hi' : i < tc s - 1 := hi
        omega
    refine z_aload_n F dX9_drop_10 rfl ?_
    refine z_dup F dX9_drop_11 rfl ?_
    refine z_getI F dX9_drop_12 gi_X9_85 (by assumption) ?_
    refine z_ti i2 ?_
    refine z_iconst (v := nI 1) F dX9_drop_15 (by decide) ?_
    refine z_isub F dX9_drop_16 ?_
    refine z_ti (pk_sub (by omega)) ?_
    refine z_putI F dX9_drop_17 pi_X9_85 (zf_8_9 _) (by assumption) ?_
    refine z_aload_n F dX9_drop_20 rfl ?_
    refine z_getI F dX9_drop_21 gi_X9_85 (by assumption) ?_
    refine z_ti (vI_sI_self _ _ _ _ _) ?_
    exact z_iret F dX9_drop_24 rfl ⟨rfl, _, rfl, gC.setI V _ (by decide), fin⟩
  · have h : tc s = 0 := (nI_ne0' (by omega)).mp c
    rw [if_pos h]
    refine z_bipush (v := (-5)) F dX9_drop_7 (by decide) ?_
    exact z_iret F dX9_drop_9 rfl (oP.same hC)
/-- what a call that changes nothing but scratch leaves -/
def oQ (Z : Hz) (G : Ga) (V : Hv) (s : St) (x : Int32) : Int32 → Hs → Prop := oP Z G V (s, x)
set_option maxRecDepth 100000 in
theorem c_compare (a b : Int32) (hR : xR Z G) (hC : rCT Z G V T X s) : zCt Γ mX9_compare 3 73 0 0 [.ref G.x, .int a, .int b] (Z, V) (pI (oP Z G V (s, opCmp s a b))) := by
  refine zCt.of [some (.ref G.x), some (.int a), some (.int b)] pn_X9_compare rfl (Nat.le_of_ble_eq_true rfl) rfl (fun κ F => ?_)
  obtain ⟨b0, b1, b2, -⟩ := hR.1
  obtain ⟨hJ, hS, hA⟩ := hR.2.1
  have hcs := hC.2.1.2.2.1
  have bad : (!isN s a || !isN s b) = true → zX Γ κ (Z, V) 0 0 (zQ Γ κ (pI (oP Z G V (s, opCmp s a b))) 0 0) 16 [some (.ref G.x), some (.int a), some (.int b)] [] := by
    intro h
    unfold opCmp
    rw [if_pos h]
    refine z_bipush (v := (-2)) F dX9_compare_16 (by decide) ?_
    exact z_iret F dX9_compare_18 rfl (oP.same hC)
  refine z_aload_n F dX9_compare_0 rfl ?_
  refine z_iload_n F dX9_compare_1 rfl ?_
  refine z_cVz F (c_isNumber a hR hC) dX9_compare_2 ml_X9_96 ok_X9_isNumber b0 (by decide) rfl rfl rfl (Nat.le_of_ble_eq_true rfl) (by decide) (by decide) (fun r S' hr => ?_)
  obtain ⟨rfl, rfl⟩ := hr
  refine z_if_eq (tgt := 16) F dX9_compare_5 (by decide) (fun c3 => ?_) (fun c3 => ?_)
  · have h3 := (zb_eq0 _).mp c3
    exact bad (by rw [h3]; rfl)
  · have h3 := zb_t c3
    refine z_aload_n F dX9_compare_8 rfl ?_
    refine z_iload_n F dX9_compare_9 rfl ?_
    refine z_cVz F (c_isNumber b hR hC) dX9_compare_10 ml_X9_96 ok_X9_isNumber b0 (by decide) rfl rfl rfl (Nat.le_of_ble_eq_true rfl) (by decide) (by decide) (fun r S' hr => ?_)
    obtain ⟨rfl, rfl⟩ := hr
    refine z_if_ne (tgt := 19) F dX9_compare_13 (by decide) (fun c4 => ?_) (fun c4 => ?_)
    · have h4 := zb_t c4
      obtain ⟨ja, hja, rfl, eja⟩ := isN_t h3 hcs
      obtain ⟨jb, hjb, rfl, ejb⟩ := isN_t h4 hcs
      obtain ⟨pa1, pa2, pa3, pa4⟩ := hR.num (show ja < 40 by omega)
      obtain ⟨pb1, pb2, pb3, pb4⟩ := hR.num (show jb < 40 by omega)
      unfold opCmp
      rw [if_neg (by rw [h3, h4]; decide), eja, ejb]
      refine z_aload_n F dX9_compare_19 rfl ?_
      refine z_getR F dX9_compare_20 gr_X9_25 (by assumption) (by assumption) ?_
      refine z_aload_n F dX9_compare_23 rfl ?_
      refine z_getR F dX9_compare_24 gr_X9_35 (by assumption) (by assumption) ?_
      refine z_iload_n F dX9_compare_27 rfl ?_
      refine z_aald F dX9_compare_28 (by assumption) pa1 pa2 ?_
      refine z_aload_n F dX9_compare_29 rfl ?_
      refine z_getR F dX9_compare_30 gr_X9_35 (by assumption) (by assumption) ?_
      refine z_iload_n F dX9_compare_33 rfl ?_
      refine z_aald F dX9_compare_34 (by assumption) pb1 pb2 ?_
      refine z_cVi F (K_order hC.1 hJ hA hS pa3 pb3) dX9_compare_35 ml_X9_117 ok_X0_order hA.1 (by decide) rfl rfl rfl (Nat.le_of_ble_eq_true rfl) (by decide) (by decide) (fun r S' hr => ?_)
      obtain ⟨rfl, V1, rfl, hK1, hF1⟩ := hr
      rw [hC.2.2.1 ja hja, hC.2.2.1 jb hjb]
      have hC1 := hC.view hK1 (vEq.ofF hR hF1) (tEq.refl G s T) (xEq.refl G X)
      exact z_iret F dX9_compare_38 rfl ⟨rfl, V1, rfl, gC.ofF hF1, T, X, hC1⟩
    · have h4 := (zb_eq0 _).mp c4
      exact bad (by rw [h4]; simp)
end NUM
