/-! ===== FractionRowsModel: numbers ===== -/
theorem nl_bl (x : Nat) : (bl x + 31) / 32 = nl x := by
  unfold nl bl
  by_cases h : x = 0
  · rw [if_pos h, if_pos h]
  · rw [if_neg h, if_neg h]; omega
/-- for calls that may throw -/
def oT (Z : Hz) (a : Nat → Nat) (n : Nat) (V : Hv) (x : St × Option Int32) : Int32 → Hs → Prop := oX Z a n V (match x.2 with | none => 1 | some _ => 0) (x.1, x.2.getD 0)
section MOD11
variable {Γ : Gm} {Z : Hz} {V : Hv} {a : Nat → Nat} {L : Nat → Nat} {T : Nat → Fr} {f n : Nat} {s : St}
theorem rMT.th0 (hM : rMT a V n T L s) : ∃ V1, sI V 9 6 (a 0) (nI 0) = V1 ∧ gM a V V1 ∧ vI V1 9 6 (a 0) = 0 ∧ rMT a V1 n T L s := ⟨_, rfl, gM.setI V 6 _, vI_sI_self _ _ _ _ _, hM.thr (nI 0)⟩
theorem eq40 (h : tc s ≤ 40) : nI (tc s) = nI 40 ↔ full s = true := by
  rw [nI_inj32 (by omega) (by decide)]
  unfold full
  rw [decide_eq_true_iff]
  omega
theorem nsc {c q : Nat} (h : scr c q) (T : Nat → Fr) (x : Fr) : ∀ j, ¬ scr c j → va_up T q x j = T j := fun j hj => up_ne _ _ (fun e => hj (e ▸ h))
set_option maxRecDepth 100000 in
theorem m_value (u v : Int64) (hR : mR Z a) (hM : rMT a V n T L s) : zCt Γ mX10_value 5 125 0 0 [.ref (a 0), .long u, .long v] (Z, V) (pI (oX Z a n V 0 (opValue s u v))) := by
  refine zCt.of [some (.ref (a 0)), some (.long u), none, some (.long v), none] pn_X10_value rfl (Nat.le_of_ble_eq_true rfl) rfl (fun κ F => ?_)
  obtain ⟨b0, b1, b2, -⟩ := hR.1
  unfold opValue keepC
  refine z_aload_n F dX10_value_0 rfl ?_
  refine z_iconst (v := nI 0) F dX10_value_1 (by decide) ?_
  refine z_putI F dX10_value_2 pi_X10_52 (zf_9_6 _) (by assumption) ?_
  obtain ⟨V1, e1, hg, ht, hM⟩ := hM.th0
  refine z_V (Z := Z) e1 ?_
  have h3 := hM.2.2.1.1.2.1
  have hcs := hM.2.2.1.1.2.2.1
  refine z_lload_n F dX10_value_5 rfl ?_
  refine z_lconst (v := lN 0) F dX10_value_6 (by decide) ?_
  refine z_lcmp F dX10_value_7 ?_
  refine z_if_ne (tgt := 14) F dX10_value_8 (by decide) (fun c => ?_) (fun c => ?_)
  · have hv : ¬ v = 0 := fun z => c ((lg_cmp_eq _ _).mpr z)
    rw [if_neg hv]
    refine z_aload_n F dX10_value_14 rfl ?_
    refine z_getI F dX10_value_15 gi_X10_116 (by assumption) ?_
    refine z_ti h3 ?_
    refine z_bipush (v := nI 40) F dX10_value_18 (by decide) ?_
    refine z_icmp_ne (tgt := 26) F dX10_value_20 (by decide) (fun c2 => ?_) (fun c2 => ?_)
    · have h := mt (eq40 hcs).mpr c2
      have h40 := full_f h
      rw [if_neg h]
      refine z_aload_n F dX10_value_26 rfl ?_
      refine z_aload_n F dX10_value_27 rfl ?_
      refine z_getI F dX10_value_28 gi_X10_116 (by assumption) ?_
      refine z_ti h3 ?_
      refine z_lload_n F dX10_value_31 rfl ?_
      refine z_lload_n F dX10_value_32 rfl ?_
      refine z_cVv F (m_setFraction (f := tc s) u v hR hM.2.1 (by omega) hv) dX10_value_33 ml_X10_133 ok_X10_setFraction b0 (by decide) rfl rfl rfl (Nat.le_of_ble_eq_true rfl) (by decide) (by decide) (fun S' hS' => ?_)
      obtain ⟨V2, L2, rfl, hE2, hL2⟩ := hS'
      have hM2 := hM.up hR hE2 hL2 (Or.inl ⟨Nat.le_refl _, h40⟩)
      refine z_aload_n F dX10_value_36 rfl ?_
      refine z_cVi F (m_kept (th := 0) hR hM2 (by rw [hE2.i]; exact ht) h40) dX10_value_37 ml_X10_129 ok_X10_kept b0 (by decide) rfl rfl rfl (Nat.le_of_ble_eq_true rfl) (by decide) (by decide) (fun r S' hr => ?_)
      rw [up_self] at hr
      exact z_iret F dX10_value_40 rfl (oX.after (hg.trans (gM.ofM hE2)) hr)
    · have h := (eq40 hcs).mp c2
      rw [if_pos h]
      refine z_bipush (v := (-4)) F dX10_value_23 (by decide) ?_
      exact z_iret F dX10_value_25 rfl (oX.same hg hM ht)
  · have hv : v = 0 := (lg_cmp_eq _ _).mp c
    rw [if_pos hv]
    refine z_bipush (v := (-2)) F dX10_value_11 (by decide) ?_
    exact z_iret F dX10_value_13 rfl (oX.same hg hM ht)
theorem in4 (op : Int32) : inI op 4 = !(decide (op < 0) || decide (3 < op)) := by
  unfold inI
  have e4 : (nI 4).toInt = 4 := by decide
  have e3 : (3 : Int32).toInt = 3 := by decide
  have e0 : (0 : Int32).toInt = 0 := by decide
  rw [Bool.not_or]
  congr 1
  · rw [← decide_not]
    apply decide_eq_decide.mpr
    rw [Int32.le_iff_toInt_le, Int32.lt_iff_toInt_lt]
    omega
  · rw [← decide_not]
    apply decide_eq_decide.mpr
    rw [Int32.lt_iff_toInt_lt, Int32.lt_iff_toInt_lt]
    omega
set_option maxRecDepth 100000 in
set_option maxHeartbeats 1000000 in
theorem m_act (op x y : Int32) (hR : mR Z a) (hM : rMT a V n T L s) (hO : sOk n s) : zCt Γ mX10_act 5 125 0 0 [.ref (a 0), .int op, .int x, .int y] (Z, V) (pI (oX Z a n V 0 (opAct s op x y))) := by
  refine zCt.of [some (.ref (a 0)), some (.int op), some (.int x), some (.int y), none] pn_X10_act rfl (Nat.le_of_ble_eq_true rfl) rfl (fun κ F => ?_)
  obtain ⟨b0, b1, b2, -⟩ := hR.1
  refine z_aload_n F dX10_act_0 rfl ?_
  refine z_iconst (v := nI 0) F dX10_act_1 (by decide) ?_
  refine z_putI F dX10_act_2 pi_X10_52 (zf_9_6 _) (by assumption) ?_
  obtain ⟨V1, e1, hg, ht, hM⟩ := hM.th0
  refine z_V (Z := Z) e1 ?_
  have h3 := hM.2.2.1.1.2.1
  have hcs := hM.2.2.1.1.2.2.1
  generalize hQ : zQ Γ κ (pI (oX Z a n V 0 (opAct s op x y))) 0 0 = Q
  have bad : (decide (op < 0) || decide (3 < op) || !isN s x || !isN s y) = true → zX Γ κ (Z, V1) 0 0 Q 30 [some (.ref (a 0)), some (.int op), some (.int x), some (.int y), none] [] := by
    intro h
    subst hQ
    unfold opAct
    rw [if_pos h]
    refine z_iconst (v := (-1)) F dX10_act_30 (by decide) ?_
    exact z_iret F dX10_act_31 rfl (oX.same hg hM ht)
  refine z_iload_n F dX10_act_5 rfl ?_
  refine z_iconst (v := nI 0) F dX10_act_6 (by decide) ?_
  refine z_iconst (v := nI 3) F dX10_act_7 (by decide) ?_
  refine z_cSz F (m_isIn op (nI 0) (nI 3)) dX10_act_8 ml_X10_119 ok_X10_isIn rfl rfl rfl (Nat.le_of_ble_eq_true rfl) (by decide) (by decide) (fun r S' hr => ?_)
  obtain ⟨rfl, rfl⟩ := hr
  rw [inI_le op (by decide), in4]
  refine z_if_eq (tgt := 30) F dX10_act_11 (by decide) (fun c1 => ?_) (fun c1 => ?_)
  · have h := (zb_eq0 _).mp c1
    rw [Bool.not_eq_false'] at h
    exact bad (by rw [h]; rfl)
  · have h1 := zb_t c1
    rw [Bool.not_eq_true'] at h1
    refine z_aload_n F dX10_act_14 rfl ?_
    refine z_iload_n F dX10_act_15 rfl ?_
    refine z_cVz F (m_isNumber x hR hM) dX10_act_16 ml_X10_137 ok_X10_isNumber b0 (by decide) rfl rfl rfl (Nat.le_of_ble_eq_true rfl) (by decide) (by decide) (fun r S' hr => ?_)
    obtain ⟨rfl, rfl⟩ := hr
    refine z_if_eq (tgt := 30) F dX10_act_19 (by decide) (fun c2 => ?_) (fun c2 => ?_)
    · have h := (zb_eq0 _).mp c2
      exact bad (by rw [h]; simp)
    · have h2 := zb_t c2
      refine z_aload_n F dX10_act_22 rfl ?_
      refine z_iload_n F dX10_act_23 rfl ?_
      refine z_cVz F (m_isNumber y hR hM) dX10_act_24 ml_X10_137 ok_X10_isNumber b0 (by decide) rfl rfl rfl (Nat.le_of_ble_eq_true rfl) (by decide) (by decide) (fun r S' hr => ?_)
      obtain ⟨rfl, rfl⟩ := hr
      refine z_if_ne (tgt := 32) F dX10_act_27 (by decide) (fun c3 => ?_) (fun c3 => ?_)
      · have h4 := zb_t c3
        obtain ⟨ja, hja, rfl, eja⟩ := isN_t h2 hcs
        obtain ⟨jb, hjb, rfl, ejb⟩ := isN_t h4 hcs
        have eTa := hM.2.2.2.1 ja hja
        have eTb := hM.2.2.2.1 jb hjb
        have oa := hO.1 ja hja
        have ob := hO.1 jb hjb
        have hne : ¬ (decide (op < 0) || decide (3 < op) || !isN s (nI ja) || !isN s (nI jb)) = true := by
          rw [h1, h2, h4]
          decide
        unfold opAct at hQ
        rw [if_neg hne, eja, ejb] at hQ
        refine z_aload_n F dX10_act_32 rfl ?_
        refine z_getI F dX10_act_33 gi_X10_116 (by assumption) ?_
        refine z_ti h3 ?_
        refine z_bipush (v := nI 40) F dX10_act_36 (by decide) ?_
        refine z_icmp_ne (tgt := 44) F dX10_act_38 (by decide) (fun c4 => ?_) (fun c4 => ?_)
        · have h := mt (eq40 hcs).mpr c4
          have h40 := full_f h
          rw [if_neg h] at hQ
          have fin : ∀ (r : Bool) (S' : Hs), ¬ (op = 3 ∧ (tn s jb).2.1 = 0) → mW Z V1 a T 105 (opF op (tn s ja) (tn s jb)) r S' → zX Γ κ S' 0 0 Q 110 [some (.ref (a 0)), some (.int op), some (.int (nI ja)), some (.int (nI jb)), none] [.int (zb r)] := by
            intro r S' hz hr
            rw [if_neg hz] at hQ
            subst hQ
            obtain ⟨rfl, V2, L2, rfl, hE2, hL2⟩ := hr
            have hM2 := hM.up hR hE2 hL2 (Or.inr (Or.inr ⟨by decide, by decide⟩))
            have ht2 : vI V2 9 6 (a 0) = 0 := by rw [hE2.i]; exact ht
            generalize opF op (tn s ja) (tn s jb) = w at *
            refine z_istore_4 F dX10_act_110 rfl ?_
            refine z_iload F dX10_act_112 rfl ?_
            unfold wO
            refine z_if_eq (tgt := 126) F dX10_act_114 (by decide) (fun c5 => ?_) (fun c5 => ?_)
            · have hw := zb_f c5
              rw [if_neg hw]
              refine z_aload_n F dX10_act_126 rfl ?_
              refine z_cVi F (m_grew hR hM2 ht2) dX10_act_127 ml_X10_153 ok_X10_grew b0 (by decide) rfl rfl rfl (Nat.le_of_ble_eq_true rfl) (by decide) (by decide) (fun r S' hr => ?_)
              exact z_iret F dX10_act_130 rfl (oX.after (hg.trans (gM.ofM hE2)) hr)
            · have hw := zb_t c5
              rw [if_pos hw]
              refine z_aload_n F dX10_act_117 rfl ?_
              refine z_bipush (v := nI 105) F dX10_act_118 (by decide) ?_
              refine z_cVi F (m_asNumber (f := 105) hR hM2 ht2 h40 (by decide)) dX10_act_120 ml_X10_150 ok_X10_asNumber b0 (by decide) rfl rfl rfl (Nat.le_of_ble_eq_true rfl) (by decide) (by decide) (fun r S' hr => ?_)
              rw [up_self] at hr
              refine z_goto (tgt := 130) F dX10_act_123 (by decide) ?_
              exact z_iret F dX10_act_130 rfl (oX.after (hg.trans (gM.ofM hE2)) hr)
          have go : (op = 3 → (tn s jb).2.1 ≠ 0) → zX Γ κ (Z, V1) 0 0 Q 60 [some (.ref (a 0)), some (.int op), some (.int (nI ja)), some (.int (nI jb)), none] [] := by
            intro hz
            have hz' : ¬ (op = 3 ∧ (tn s jb).2.1 = 0) := fun z => hz z.1 z.2
            refine z_iload_n F dX10_act_60 rfl ?_
            refine z_iconst (v := nI 2) F dX10_act_61 (by decide) ?_
            refine z_icmp_ge (tgt := 86) F dX10_act_62 (by decide) (fun c5 => ?_) (fun c5 => ?_)
            · have ho : ¬ op < 2 := fun z => by
                have h1 := Int32.lt_iff_toInt_lt.mp z
                have h2 := Int32.le_iff_toInt_le.mp c5
                have e : (nI 2).toInt = (2 : Int32).toInt := rfl
                omega
              refine z_iload_n F dX10_act_86 rfl ?_
              refine z_iconst (v := nI 2) F dX10_act_87 (by decide) ?_
              refine z_icmp_ne (tgt := 102) F dX10_act_88 (by decide) (fun c6 => ?_) (fun c6 => ?_)
              · have h3 : op = 3 := by
                  have e0 := Bool.or_eq_false_iff.mp h1
                  have e1 := mt Int32.lt_iff_toInt_lt.mpr (of_decide_eq_false e0.2)
                  have e2 := mt Int32.lt_iff_toInt_lt.mpr ho
                  have e3 : (3 : Int32).toInt = 3 := by decide
                  have e4 : (2 : Int32).toInt = 2 := by decide
                  apply Int32.toInt_inj.mp
                  have e5 : op.toInt ≠ 2 := fun z => c6 (Int32.toInt_inj.mp (by rw [z]; decide))
                  omega
                refine z_aload_n F dX10_act_102 rfl ?_
                refine z_iload_n F dX10_act_103 rfl ?_
                refine z_iload_n F dX10_act_104 rfl ?_
                refine z_bipush (v := nI 105) F dX10_act_105 (by decide) ?_
                refine z_cVz F (m_ratio (x := ja) (y := jb) (c := 105) hR hM.2.1 (by omega) (by omega) (by decide) (by rw [eTa]; exact oa.2) (by rw [eTb]; exact ob.2) (by rw [eTa]; exact Nat.ne_of_gt oa.1.1) (by rw [eTb]; exact hz h3)) dX10_act_107 ml_X10_147 ok_X10_ratio b0 (by decide) rfl rfl rfl (Nat.le_of_ble_eq_true rfl) (by decide) (by decide) (fun r S' hr => ?_)
                refine fin r S' hz' ?_
                have e : opF op (tn s ja) (tn s jb) = fmul (tn s ja) (tn s jb) true := by unfold opF; rw [if_neg ho, h3]; rfl
                rw [e, ← eTa, ← eTb]
                exact hr
              · have h3 : op = 2 := c6
                refine z_aload_n F dX10_act_91 rfl ?_
                refine z_iload_n F dX10_act_92 rfl ?_
                refine z_iload_n F dX10_act_93 rfl ?_
                refine z_bipush (v := nI 105) F dX10_act_94 (by decide) ?_
                refine z_cVz F (m_product (x := ja) (y := jb) (c := 105) hR hM.2.1 (by omega) (by omega) (by decide) (by rw [eTa]; exact oa.2) (by rw [eTb]; exact ob.2) (by rw [eTa]; exact Nat.ne_of_gt oa.1.1) (by rw [eTb]; exact Nat.ne_of_gt ob.1.1)) dX10_act_96 ml_X10_144 ok_X10_product b0 (by decide) rfl rfl rfl (Nat.le_of_ble_eq_true rfl) (by decide) (by decide) (fun r S' hr => ?_)
                refine z_goto (tgt := 110) F dX10_act_99 (by decide) ?_
                refine fin r S' hz' ?_
                have e : opF op (tn s ja) (tn s jb) = fmul (tn s ja) (tn s jb) false := by unfold opF; rw [if_neg ho, h3]; rfl
                rw [e, ← eTa, ← eTb]
                exact hr
            · have ho : op < 2 := Int32.lt_iff_toInt_lt.mpr (by
                have h2 := mt Int32.le_iff_toInt_le.mpr c5
                have e : (nI 2).toInt = (2 : Int32).toInt := rfl
                omega)
              have tot : ∀ d : Bool, d = decide (op = 1) → zX Γ κ (Z, V1) 0 0 Q 80 [some (.ref (a 0)), some (.int op), some (.int (nI ja)), some (.int (nI jb)), none] [.int (zb d), .int (nI 105), .int (nI jb), .int (nI ja), .ref (a 0)] := by
                intro d hd
                refine z_cVz F (m_total (x := ja) (y := jb) (c := 105) d hR hM.2.1 (by omega) (by omega) (by decide) (by rw [eTa]; exact oa.2) (by rw [eTb]; exact ob.2) (by rw [eTa]; exact Nat.ne_of_gt oa.1.1) (by rw [eTb]; exact Nat.ne_of_gt ob.1.1)) dX10_act_80 ml_X10_140 ok_X10_total b0 (by decide) rfl rfl rfl (Nat.le_of_ble_eq_true rfl) (by decide) (by decide) (fun r S' hr => ?_)
                refine z_goto (tgt := 110) F dX10_act_83 (by decide) ?_
                refine fin r S' hz' ?_
                have e : opF op (tn s ja) (tn s jb) = fadd (tn s ja) (tn s jb) d := by unfold opF; rw [if_pos ho, hd]
                rw [e, ← eTa, ← eTb]
                exact hr
              refine z_aload_n F dX10_act_65 rfl ?_
              refine z_iload_n F dX10_act_66 rfl ?_
              refine z_iload_n F dX10_act_67 rfl ?_
              refine z_bipush (v := nI 105) F dX10_act_68 (by decide) ?_
              refine z_iload_n F dX10_act_70 rfl ?_
              refine z_iconst (v := nI 1) F dX10_act_71 (by decide) ?_
              refine z_icmp_ne (tgt := 79) F dX10_act_72 (by decide) (fun c6 => ?_) (fun c6 => ?_)
              · have h : ¬ op = 1 := c6
                refine z_iconst (v := nI 0) F dX10_act_79 (by decide) ?_
                exact tot false (decide_eq_false h).symm
              · have h : op = 1 := c6
                refine z_iconst (v := nI 1) F dX10_act_75 (by decide) ?_
                refine z_goto (tgt := 80) F dX10_act_76 (by decide) ?_
                exact tot true (decide_eq_true h).symm
          refine z_iload_n F dX10_act_44 rfl ?_
          refine z_iconst (v := nI 3) F dX10_act_45 (by decide) ?_
          refine z_icmp_ne (tgt := 60) F dX10_act_46 (by decide) (fun c5 => ?_) (fun c5 => ?_)
          · exact go (fun z => absurd z c5)
          · refine z_aload_n F dX10_act_49 rfl ?_
            refine z_iload_n F dX10_act_50 rfl ?_
            refine z_cVz F (m_isZero (f := jb) hR hM.2.1 (by omega)) dX10_act_51 ml_X10_92 ok_X10_isZero b0 (by decide) rfl rfl rfl (Nat.le_of_ble_eq_true rfl) (by decide) (by decide) (fun r S' hr => ?_)
            obtain ⟨rfl, rfl⟩ := hr
            rw [eTb]
            refine z_if_eq (tgt := 60) F dX10_act_54 (by decide) (fun c6 => ?_) (fun c6 => ?_)
            · exact go (fun _ e => zb_f c6 (decide_eq_true e))
            · have hz : op = 3 ∧ (tn s jb).2.1 = 0 := ⟨c5, of_decide_eq_true (zb_t c6)⟩
              rw [if_pos hz] at hQ
              subst hQ
              refine z_bipush (v := (-2)) F dX10_act_57 (by decide) ?_
              exact z_iret F dX10_act_59 rfl (oX.same hg hM ht)
        · have h := (eq40 hcs).mp c4
          rw [if_pos h] at hQ
          subst hQ
          refine z_bipush (v := (-4)) F dX10_act_41 (by decide) ?_
          exact z_iret F dX10_act_43 rfl (oX.same hg hM ht)
      · have h := (zb_eq0 _).mp c3
        exact bad (by rw [h]; simp)
set_option maxRecDepth 100000 in
set_option maxHeartbeats 1000000 in
theorem m_quotient (x y : Int32) (hR : mR Z a) (hM : rMT a V n T L s) (hO : sOk n s) : zCt Γ mX10_quotient 5 123 0 0 [.ref (a 0), .int x, .int y] (Z, V) (pI (oT Z a n V (opQuo s x y))) := by
  refine zCt.of [some (.ref (a 0)), some (.int x), some (.int y)] pn_X10_quotient rfl (Nat.le_of_ble_eq_true rfl) rfl (fun κ F => ?_)
  obtain ⟨b0, b1, b2, -⟩ := hR.1
  refine z_aload_n F dX10_quotient_0 rfl ?_
  refine z_iconst (v := nI 0) F dX10_quotient_1 (by decide) ?_
  refine z_putI F dX10_quotient_2 pi_X10_52 (zf_9_6 _) (by assumption) ?_
  obtain ⟨V1, e1, hg, ht, hM⟩ := hM.th0
  refine z_V (Z := Z) e1 ?_
  have h3 := hM.2.2.1.1.2.1
  have hcs := hM.2.2.1.1.2.2.1
  generalize hQ : zQ Γ κ (pI (oT Z a n V (opQuo s x y))) 0 0 = Q
  have bad : (!isN s x || !isN s y) = true → zX Γ κ (Z, V1) 0 0 Q 21 [some (.ref (a 0)), some (.int x), some (.int y)] [] := by
    intro h
    subst hQ
    unfold opQuo
    rw [if_pos h]
    refine z_iconst (v := (-1)) F dX10_quotient_21 (by decide) ?_
    exact z_iret F dX10_quotient_22 rfl (oX.same hg hM ht)
  refine z_aload_n F dX10_quotient_5 rfl ?_
  refine z_iload_n F dX10_quotient_6 rfl ?_
  refine z_cVz F (m_isNumber x hR hM) dX10_quotient_7 ml_X10_137 ok_X10_isNumber b0 (by decide) rfl rfl rfl (Nat.le_of_ble_eq_true rfl) (by decide) (by decide) (fun r S' hr => ?_)
  obtain ⟨rfl, rfl⟩ := hr
  refine z_if_eq (tgt := 21) F dX10_quotient_10 (by decide) (fun c2 => ?_) (fun c2 => ?_)
  · have h := (zb_eq0 _).mp c2
    exact bad (by rw [h]; simp)
  · have h2 := zb_t c2
    refine z_aload_n F dX10_quotient_13 rfl ?_
    refine z_iload_n F dX10_quotient_14 rfl ?_
    refine z_cVz F (m_isNumber y hR hM) dX10_quotient_15 ml_X10_137 ok_X10_isNumber b0 (by decide) rfl rfl rfl (Nat.le_of_ble_eq_true rfl) (by decide) (by decide) (fun r S' hr => ?_)
    obtain ⟨rfl, rfl⟩ := hr
    refine z_if_ne (tgt := 23) F dX10_quotient_18 (by decide) (fun c3 => ?_) (fun c3 => ?_)
    · have h4 := zb_t c3
      obtain ⟨ja, hja, rfl, eja⟩ := isN_t h2 hcs
      obtain ⟨jb, hjb, rfl, ejb⟩ := isN_t h4 hcs
      have eTa := hM.2.2.2.1 ja hja
      have eTb := hM.2.2.2.1 jb hjb
      have oa := hO.1 ja hja
      have ob := hO.1 jb hjb
      have hne : ¬ (!isN s (nI ja) || !isN s (nI jb)) = true := by
        rw [h2, h4]
        decide
      unfold opQuo at hQ
      rw [if_neg hne, eja, ejb] at hQ
      refine z_aload_n F dX10_quotient_23 rfl ?_
      refine z_getI F dX10_quotient_24 gi_X10_116 (by assumption) ?_
      refine z_ti h3 ?_
      refine z_bipush (v := nI 40) F dX10_quotient_27 (by decide) ?_
      refine z_icmp_ne (tgt := 35) F dX10_quotient_29 (by decide) (fun c4 => ?_) (fun c4 => ?_)
      · have h := mt (eq40 hcs).mpr c4
        have h40 := full_f h
        rw [if_neg h] at hQ
        refine z_aload_n F dX10_quotient_35 rfl ?_
        refine z_iload_n F dX10_quotient_36 rfl ?_
        refine z_cVz F (m_isZero (f := jb) hR hM.2.1 (by omega)) dX10_quotient_37 ml_X10_92 ok_X10_isZero b0 (by decide) rfl rfl rfl (Nat.le_of_ble_eq_true rfl) (by decide) (by decide) (fun r S' hr => ?_)
        obtain ⟨rfl, rfl⟩ := hr
        rw [eTb]
        refine z_if_eq (tgt := 50) F dX10_quotient_40 (by decide) (fun c6 => ?_) (fun c6 => ?_)
        · have hz : ¬ (tn s jb).2.1 = 0 := fun e => zb_f c6 (decide_eq_true e)
          rw [if_neg hz] at hQ
          refine z_aload_n F dX10_quotient_50 rfl ?_
          refine z_iload_n F dX10_quotient_51 rfl ?_
          refine z_iload_n F dX10_quotient_52 rfl ?_
          refine z_bipush (v := nI 105) F dX10_quotient_53 (by decide) ?_
          refine z_cVz F (m_ratio (x := ja) (y := jb) (c := 105) hR hM.2.1 (by omega) (by omega) (by decide) (by rw [eTa]; exact oa.2) (by rw [eTb]; exact ob.2) (by rw [eTa]; exact Nat.ne_of_gt oa.1.1) (by rw [eTb]; exact hz)) dX10_quotient_55 ml_X10_147 ok_X10_ratio b0 (by decide) rfl rfl rfl (Nat.le_of_ble_eq_true rfl) (by decide) (by decide) (fun r S' hr => ?_)
          rw [eTa, eTb] at hr
          obtain ⟨rfl, V2, L2, rfl, hE2, hL2⟩ := hr
          have hM2 := hM.up hR hE2 hL2 (Or.inr (Or.inr ⟨by decide, by decide⟩))
          have ht2 : vI V2 9 6 (a 0) = 0 := by rw [hE2.i]; exact ht
          generalize fmul (tn s ja) (tn s jb) true = w at *
          unfold wO at hQ
          refine z_if_eq (tgt := 70) F dX10_quotient_58 (by decide) (fun c5 => ?_) (fun c5 => ?_)
          · have hw := zb_f c5
            rw [if_neg hw] at hQ
            subst hQ
            refine z_aload_n F dX10_quotient_70 rfl ?_
            refine z_cVi F (m_grew hR hM2 ht2) dX10_quotient_71 ml_X10_153 ok_X10_grew b0 (by decide) rfl rfl rfl (Nat.le_of_ble_eq_true rfl) (by decide) (by decide) (fun r S' hr => ?_)
            exact z_iret F dX10_quotient_74 rfl (oX.after (hg.trans (gM.ofM hE2)) hr)
          · have hw := zb_t c5
            rw [if_pos hw] at hQ
            subst hQ
            refine z_aload_n F dX10_quotient_61 rfl ?_
            refine z_bipush (v := nI 105) F dX10_quotient_62 (by decide) ?_
            refine z_cVi F (m_asNumber (f := 105) hR hM2 ht2 h40 (by decide)) dX10_quotient_64 ml_X10_150 ok_X10_asNumber b0 (by decide) rfl rfl rfl (Nat.le_of_ble_eq_true rfl) (by decide) (by decide) (fun r S' hr => ?_)
            rw [up_self] at hr
            refine z_goto (tgt := 74) F dX10_quotient_67 (by decide) ?_
            exact z_iret F dX10_quotient_74 rfl (oX.after (hg.trans (gM.ofM hE2)) hr)
        · have hz : (tn s jb).2.1 = 0 := of_decide_eq_true (zb_t c6)
          rw [if_pos hz] at hQ
          subst hQ
          refine z_aload_n F dX10_quotient_43 rfl ?_
          refine z_iconst (v := nI 1) F dX10_quotient_44 (by decide) ?_
          refine z_putI F dX10_quotient_45 pi_X10_52 (zf_9_6 _) (by assumption) ?_
          refine z_iconst (v := nI 0) F dX10_quotient_48 (by decide) ?_
          exact z_iret F dX10_quotient_49 rfl ⟨rfl, _, _, _, rfl, hg.trans (gM.setI V1 6 _), vI_sI_self _ _ _ _ _, hM.thr _⟩
      · have h := (eq40 hcs).mp c4
        rw [if_pos h] at hQ
        subst hQ
        refine z_bipush (v := (-4)) F dX10_quotient_32 (by decide) ?_
        exact z_iret F dX10_quotient_34 rfl (oX.same hg hM ht)
    · have h := (zb_eq0 _).mp c3
      exact bad (by rw [h]; simp)
set_option maxRecDepth 100000 in
theorem m_drop (hR : mR Z a) (hM : rMT a V n T L s) : zCt Γ mX10_drop 0 0 0 0 [.ref (a 0)] (Z, V) (pI (oX Z a n V 0 (opDrop s))) := by
  refine zCt.of [some (.ref (a 0))] pn_X10_drop rfl (Nat.le_of_ble_eq_true rfl) rfl (fun κ F => ?_)
  obtain ⟨b0, b1, b2, -⟩ := hR.1
  refine z_aload_n F dX10_drop_0 rfl ?_
  refine z_iconst (v := nI 0) F dX10_drop_1 (by decide) ?_
  refine z_putI F dX10_drop_2 pi_X10_52 (zf_9_6 _) (by assumption) ?_
  obtain ⟨V1, e1, hg, ht, hM⟩ := hM.th0
  refine z_V (Z := Z) e1 ?_
  have h3 := hM.2.2.1.1.2.1
  have hcs := hM.2.2.1.1.2.2.1
  unfold opDrop
  refine z_aload_n F dX10_drop_5 rfl ?_
  refine z_getI F dX10_drop_6 gi_X10_116 (by assumption) ?_
  refine z_ti h3 ?_
  refine z_if_ne (tgt := 15) F dX10_drop_9 (by decide) (fun c => ?_) (fun c => ?_)
  · have h : ¬ tc s = 0 := fun e => c (by rw [e]; rfl)
    rw [if_neg h]
    obtain ⟨hn, hL, ⟨⟨i2, i3, i40, i4, i5⟩, hv, hx⟩, h1, h2, h3', h4⟩ := hM
    have fin : rMT a (sI V1 9 3 (a 0) (nI (tc s - 1))) n T L (tc s - 1, s.2) := by
      refine ⟨hn, hL, ⟨⟨?_, vI_sI_self _ _ _ _ _, ?_, ?_, ?_⟩, ?_, ?_⟩, fun i hi => h1 i ?_, h2, h3', h4⟩
      · rw [vI9 V1 (by decide)]; exact i2
      · show tc s - 1 ≤ 40; omega
      · rw [vI9 V1 (by decide)]; exact i4
      · rw [vI9 V1 (by decide)]; exact i5
      · exact hv.of (fun k h1 h2 => vI9 V1 (by omega)) (fun k _ _ => rfl)
      · exact hx.of (vI9 V1 (by decide)) rfl
      · have hi' : i < tc s - 1 := hi
        omega
    have ht' : vI (sI V1 9 3 (a 0) (nI (tc s - 1))) 9 6 (a 0) = 0 := by rw [vI9 V1 (by decide)]; exact ht
    refine z_aload_n F dX10_drop_15 rfl ?_
    refine z_dup F dX10_drop_16 rfl ?_
    refine z_getI F dX10_drop_17 gi_X10_116 (by assumption) ?_
    refine z_ti h3 ?_
    refine z_iconst (v := nI 1) F dX10_drop_20 (by decide) ?_
    refine z_isub F dX10_drop_21 ?_
    refine z_ti (pk_sub (by omega)) ?_
    refine z_putI F dX10_drop_22 pi_X10_116 (zf_9_3 _) (by assumption) ?_
    refine z_aload_n F dX10_drop_25 rfl ?_
    refine z_getI F dX10_drop_26 gi_X10_116 (by assumption) ?_
    refine z_ti (vI_sI_self _ _ _ _ _) ?_
    exact z_iret F dX10_drop_29 rfl ⟨rfl, _, _, _, rfl, hg.trans (gM.setI V1 _ _), ht', fin⟩
  · have h : tc s = 0 := (nI_ne0' (by omega)).mp c
    rw [if_pos h]
    refine z_bipush (v := (-5)) F dX10_drop_12 (by decide) ?_
    exact z_iret F dX10_drop_14 rfl (oX.same hg hM ht)
end MOD11
