/-! ===== FractionRowsModel: compare, about, limb, entry, put, take ===== -/
theorem cmpI_neg (x y : Nat) : -cmpI x y = cmpI y x := by
  unfold cmpI
  rcases Nat.lt_trichotomy x y with h | h | h
  · rw [if_pos h, if_neg (by omega), if_neg (by omega)]; decide
  · rw [if_neg (by omega), if_pos h, if_neg (by omega), if_pos h.symm]; decide
  · rw [if_neg (by omega), if_neg (by omega), if_pos h]
theorem or_bit {m b i : Nat} (hm : m < 2 ^ i) (hb : b ≤ 1) (hi : i < 32) : nI m ||| (nI b <<< (nI i &&& 31)) = nI (m + b * 2 ^ i) := by
  have h32 : 2 ^ i ≤ 2 ^ 31 := Nat.pow_le_pow_right (by decide) (by omega)
  have hs := sh31 i hi
  apply Int32.toBitVec_inj.mp
  rw [Int32.toBitVec_or, Int32.toBitVec_shiftLeft]
  apply BitVec.eq_of_toNat_eq
  rw [BitVec.toNat_or, BitVec.shiftLeft_eq', BitVec.toNat_shiftLeft, hs]
  show BitVec.toNat (BitVec.ofNat 32 m) ||| (BitVec.toNat (BitVec.ofNat 32 b) <<< i) % 2 ^ 32 = BitVec.toNat (BitVec.ofNat 32 (m + b * 2 ^ i))
  rw [BitVec.toNat_ofNat, BitVec.toNat_ofNat, BitVec.toNat_ofNat, Nat.mod_eq_of_lt (show m < 2 ^ 32 by omega), Nat.mod_eq_of_lt (show b < 2 ^ 32 by omega), Nat.shiftLeft_eq]
  have hb2 : b * 2 ^ i ≤ 2 ^ i := by
    calc b * 2 ^ i ≤ 1 * 2 ^ i := Nat.mul_le_mul_right _ hb
      _ = 2 ^ i := Nat.one_mul _
  rw [Nat.mod_eq_of_lt (show b * 2 ^ i < 2 ^ 32 by omega), Nat.mod_eq_of_lt (show m + b * 2 ^ i < 2 ^ 32 by omega), Nat.or_comm, ← Nat.shiftLeft_eq, ← Nat.shiftLeft_add_eq_or_of_lt hm, Nat.add_comm]
theorem mod_bit (y i : Nat) : y % 2 ^ i + y / 2 ^ i % 2 * 2 ^ i = y % 2 ^ (i + 1) := by
  rw [Nat.pow_succ, Nat.mod_mul, Nat.mul_comm]
section MOD12
variable {Γ : Gm} {Z : Hz} {V : Hv} {a : Nat → Nat} {L : Nat → Nat} {T : Nat → Fr} {f n : Nat} {s : St}
set_option maxRecDepth 100000 in
set_option maxHeartbeats 1000000 in
theorem m_compare (x y : Int32) (hR : mR Z a) (hM : rMT a V n T L s) (hO : sOk n s) : zCt Γ mX10_compare 2 55 0 0 [.ref (a 0), .int x, .int y] (Z, V) (pI (oX Z a n V 0 (s, opCmp s x y))) := by
  refine zCt.of [some (.ref (a 0)), some (.int x), some (.int y)] pn_X10_compare rfl (Nat.le_of_ble_eq_true rfl) rfl (fun κ F => ?_)
  obtain ⟨b0, b1, b2, -⟩ := hR.1
  obtain ⟨d1, d2, d3, d4⟩ := hR.2.1
  refine z_aload_n F dX10_compare_0 rfl ?_
  refine z_iconst (v := nI 0) F dX10_compare_1 (by decide) ?_
  refine z_putI F dX10_compare_2 pi_X10_52 (zf_9_6 _) (by assumption) ?_
  obtain ⟨V1, e1, hg, ht, hM⟩ := hM.th0
  refine z_V (Z := Z) e1 ?_
  have h3 := hM.2.2.1.1.2.1
  have hcs := hM.2.2.1.1.2.2.1
  generalize hQ : zQ Γ κ (pI (oX Z a n V 0 (s, opCmp s x y))) 0 0 = Q
  have bad : (!isN s x || !isN s y) = true → zX Γ κ (Z, V1) 0 0 Q 21 [some (.ref (a 0)), some (.int x), some (.int y)] [] := by
    intro h
    subst hQ
    unfold opCmp
    rw [if_pos h]
    refine z_bipush (v := (-2)) F dX10_compare_21 (by decide) ?_
    exact z_iret F dX10_compare_23 rfl (oX.same hg hM ht)
  refine z_aload_n F dX10_compare_5 rfl ?_
  refine z_iload_n F dX10_compare_6 rfl ?_
  refine z_cVz F (m_isNumber x hR hM) dX10_compare_7 ml_X10_137 ok_X10_isNumber b0 (by decide) rfl rfl rfl (Nat.le_of_ble_eq_true rfl) (by decide) (by decide) (fun r S' hr => ?_)
  obtain ⟨rfl, rfl⟩ := hr
  refine z_if_eq (tgt := 21) F dX10_compare_10 (by decide) (fun c2 => ?_) (fun c2 => ?_)
  · have h := (zb_eq0 _).mp c2
    exact bad (by rw [h]; simp)
  · have h2 := zb_t c2
    refine z_aload_n F dX10_compare_13 rfl ?_
    refine z_iload_n F dX10_compare_14 rfl ?_
    refine z_cVz F (m_isNumber y hR hM) dX10_compare_15 ml_X10_137 ok_X10_isNumber b0 (by decide) rfl rfl rfl (Nat.le_of_ble_eq_true rfl) (by decide) (by decide) (fun r S' hr => ?_)
    obtain ⟨rfl, rfl⟩ := hr
    refine z_if_ne (tgt := 24) F dX10_compare_18 (by decide) (fun c3 => ?_) (fun c3 => ?_)
    · have h4 := zb_t c3
      obtain ⟨ja, hja, rfl, eja⟩ := isN_t h2 hcs
      obtain ⟨jb, hjb, rfl, ejb⟩ := isN_t h4 hcs
      have eTa := hM.2.2.2.1 ja hja
      have eTb := hM.2.2.2.1 jb hjb
      have oa := hO.1 ja hja
      have ob := hO.1 jb hjb
      have ina := hR.inb (f := ja) (by omega)
      have inb := hR.inb (f := jb) (by omega)
      have rba := hM.2.1.rb (f := ja) (by omega)
      have rbb := hM.2.1.rb (f := jb) (by omega)
      obtain ⟨hux, hvx, -⟩ := hM.2.1.2 ja (by omega)
      obtain ⟨huy, hvy, -⟩ := hM.2.1.2 jb (by omega)
      rw [eTa] at rba hux hvx
      rw [eTb] at rbb huy hvy
      have hne : ¬ (!isN s (nI ja) || !isN s (nI jb)) = true := by
        rw [h2, h4]
        decide
      unfold opCmp at hQ
      rw [if_neg hne, eja, ejb] at hQ
      unfold fcmp at hQ
      refine z_aload_n F dX10_compare_24 rfl ?_
      refine z_getR F dX10_compare_25 gr_X10_13 (by assumption) (by assumption) ?_
      refine z_iload_n F dX10_compare_28 rfl ?_
      refine z_zald F dX10_compare_29 (by assumption) (by assumption) ?_
      refine z_ti rba ?_
      refine z_aload_n F dX10_compare_30 rfl ?_
      refine z_getR F dX10_compare_31 gr_X10_13 (by assumption) (by assumption) ?_
      refine z_iload_n F dX10_compare_34 rfl ?_
      refine z_zald F dX10_compare_35 (by assumption) (by assumption) ?_
      refine z_ti rbb ?_
      refine z_icmp_eq (tgt := 54) F dX10_compare_36 (by decide) (fun c4 => ?_) (fun c4 => ?_)
      · have h := (zb_cmp _ _).mp c4
        rw [if_pos h] at hQ
        have m1 := mul_lt12 oa.2.1 ob.2.2
        have m2 := mul_lt12 ob.2.1 oa.2.2
        refine z_aload_n F dX10_compare_54 rfl ?_
        refine z_iconst (v := nI 2) F dX10_compare_55 (by decide) ?_
        refine z_iload_n F dX10_compare_56 rfl ?_
        refine z_imul F dX10_compare_57 ?_
        refine z_ti (pk_mul 2 ja) ?_
        refine z_iconst (v := nI 2) F dX10_compare_58 (by decide) ?_
        refine z_iload_n F dX10_compare_59 rfl ?_
        refine z_imul F dX10_compare_60 ?_
        refine z_ti (pk_mul 2 jb) ?_
        refine z_iconst (v := nI 1) F dX10_compare_61 (by decide) ?_
        refine z_iadd F dX10_compare_62 ?_
        refine z_ti (nI_add _ 1) ?_
        refine z_sipush (v := nI 224) F dX10_compare_63 (by decide) ?_
        refine z_cVv F (m_times (s := 2 * ja) (t := 2 * jb + 1) (c := 224) hR hM.2.1.1 (by omega) (by omega) (by decide) (by omega) (by omega) (by rw [hux, hvy]; exact lt16 m1)) dX10_compare_66 ml_X10_102 ok_X10_times b0 (by decide) rfl rfl rfl (Nat.le_of_ble_eq_true rfl) (by decide) (by decide) (fun S' hS' => ?_)
        obtain ⟨V2, rfl, hE2, hG2⟩ := hS'
        rw [hux, hvy] at hG2
        refine z_aload_n F dX10_compare_69 rfl ?_
        refine z_iconst (v := nI 2) F dX10_compare_70 (by decide) ?_
        refine z_iload_n F dX10_compare_71 rfl ?_
        refine z_imul F dX10_compare_72 ?_
        refine z_ti (pk_mul 2 jb) ?_
        refine z_iconst (v := nI 2) F dX10_compare_73 (by decide) ?_
        refine z_iload_n F dX10_compare_74 rfl ?_
        refine z_imul F dX10_compare_75 ?_
        refine z_ti (pk_mul 2 ja) ?_
        refine z_iconst (v := nI 1) F dX10_compare_76 (by decide) ?_
        refine z_iadd F dX10_compare_77 ?_
        refine z_ti (nI_add _ 1) ?_
        refine z_sipush (v := nI 225) F dX10_compare_78 (by decide) ?_
        refine z_cVv F (m_times (s := 2 * jb) (t := 2 * ja + 1) (c := 225) hR hG2 (by omega) (by omega) (by decide) (by omega) (by omega) (by rw [up_ne _ _ (by omega), up_ne _ _ (by omega), huy, hvx]; exact lt16 m2)) dX10_compare_81 ml_X10_102 ok_X10_times b0 (by decide) rfl rfl rfl (Nat.le_of_ble_eq_true rfl) (by decide) (by decide) (fun S' hS' => ?_)
        obtain ⟨V3, rfl, hE3, hG3⟩ := hS'
        rw [up_ne (j := 2 * jb) _ _ (by omega), up_ne (j := 2 * ja + 1) _ _ (by omega), huy, hvx] at hG3
        have hE := hE2.trans hE3
        have hL3 := hM.2.1.sc hR hE hG3 (fun k hk => by rw [up_ne _ _ (by omega), up_ne _ _ (by omega)])
        have hM3 := hM.view hR hE.m hL3 (fun _ _ => rfl)
        have ht3 : vI V3 9 6 (a 0) = 0 := by rw [hE.i]; exact ht
        have hg3 := hg.trans (gM.ofM hE.m)
        have rba3 : vA V3 (a 2) (nI ja).toNatClampNeg = zb (tn s ja).1 := by rw [hE.2.1 _ hR.n21]; exact rba
        refine z_aload_n F dX10_compare_84 rfl ?_
        refine z_getR F dX10_compare_85 gr_X10_13 (by assumption) (by assumption) ?_
        refine z_iload_n F dX10_compare_88 rfl ?_
        refine z_zald F dX10_compare_89 (by assumption) (by assumption) ?_
        refine z_ti rba3 ?_
        refine z_if_eq (tgt := 107) F dX10_compare_90 (by decide) (fun c5 => ?_) (fun c5 => ?_)
        · have h5 := zb_f c5
          rw [if_neg h5] at hQ
          refine z_aload_n F dX10_compare_107 rfl ?_
          refine z_sipush (v := nI 224) F dX10_compare_108 (by decide) ?_
          refine z_sipush (v := nI 225) F dX10_compare_111 (by decide) ?_
          refine z_cVi F (m_orderOf (s := 224) (t := 225) hR hG3 (by decide) (by decide)) dX10_compare_114 ml_X10_76 ok_X10_orderOf b0 (by decide) rfl rfl rfl (Nat.le_of_ble_eq_true rfl) (by decide) (by decide) (fun r S' hr => ?_)
          obtain ⟨rfl, rfl⟩ := hr
          rw [up_ne (j := 224) _ _ (by decide), up_self, up_self]
          subst hQ
          exact z_iret F dX10_compare_117 rfl (oX.same hg3 hM3 ht3)
        · have h5 := zb_t c5
          rw [if_pos h5] at hQ
          refine z_aload_n F dX10_compare_93 rfl ?_
          refine z_sipush (v := nI 224) F dX10_compare_94 (by decide) ?_
          refine z_sipush (v := nI 225) F dX10_compare_97 (by decide) ?_
          refine z_cVi F (m_orderOf (s := 224) (t := 225) hR hG3 (by decide) (by decide)) dX10_compare_100 ml_X10_76 ok_X10_orderOf b0 (by decide) rfl rfl rfl (Nat.le_of_ble_eq_true rfl) (by decide) (by decide) (fun r S' hr => ?_)
          obtain ⟨rfl, rfl⟩ := hr
          rw [up_ne (j := 224) _ _ (by decide), up_self, up_self]
          subst hQ
          refine z_ineg F dX10_compare_103 ?_
          refine z_ti (cmpI_neg _ _) ?_
          refine z_goto (tgt := 117) F dX10_compare_104 (by decide) ?_
          exact z_iret F dX10_compare_117 rfl (oX.same hg3 hM3 ht3)
      · have h := mt (zb_cmp _ _).mpr c4
        rw [if_neg h] at hQ
        refine z_aload_n F dX10_compare_39 rfl ?_
        refine z_getR F dX10_compare_40 gr_X10_13 (by assumption) (by assumption) ?_
        refine z_iload_n F dX10_compare_43 rfl ?_
        refine z_zald F dX10_compare_44 (by assumption) (by assumption) ?_
        refine z_ti rba ?_
        refine z_if_eq (tgt := 52) F dX10_compare_45 (by decide) (fun c5 => ?_) (fun c5 => ?_)
        · have h5 := zb_f c5
          rw [if_neg h5] at hQ
          subst hQ
          refine z_iconst (v := nI 1) F dX10_compare_52 (by decide) ?_
          exact z_iret F dX10_compare_53 rfl (oX.same hg hM ht)
        · have h5 := zb_t c5
          rw [if_pos h5] at hQ
          subst hQ
          refine z_iconst (v := (-1)) F dX10_compare_48 (by decide) ?_
          refine z_goto (tgt := 53) F dX10_compare_49 (by decide) ?_
          exact z_iret F dX10_compare_53 rfl (oX.same hg hM ht)
    · have h := (zb_eq0 _).mp c3
      exact bad (by rw [h]; simp)
theorem bl192' {x : Fr} (h : fok x) : bl x.2.1 ≤ 192 ∧ bl x.2.2 ≤ 192 := ⟨bl192.mpr h.2.1, bl192.mpr h.2.2⟩
set_option maxRecDepth 100000 in
set_option maxHeartbeats 1000000 in
theorem m_about (x what : Int32) (hR : mR Z a) (hM : rMT a V n T L s) (hO : sOk n s) : zCt Γ mX10_about 3 67 0 0 [.ref (a 0), .int x, .int what] (Z, V) (pI (oX Z a n V 0 (s, opAbout s x what))) := by
  refine zCt.of [some (.ref (a 0)), some (.int x), some (.int what)] pn_X10_about rfl (Nat.le_of_ble_eq_true rfl) rfl (fun κ F => ?_)
  obtain ⟨b0, b1, b2, -⟩ := hR.1
  obtain ⟨d1, d2, d3, d4⟩ := hR.2.1
  refine z_aload_n F dX10_about_0 rfl ?_
  refine z_iconst (v := nI 0) F dX10_about_1 (by decide) ?_
  refine z_putI F dX10_about_2 pi_X10_52 (zf_9_6 _) (by assumption) ?_
  obtain ⟨V1, e1, hg, ht, hM⟩ := hM.th0
  refine z_V (Z := Z) e1 ?_
  have hcs := hM.2.2.1.1.2.2.1
  unfold opAbout
  refine z_aload_n F dX10_about_5 rfl ?_
  refine z_iload_n F dX10_about_6 rfl ?_
  refine z_cVz F (m_isNumber x hR hM) dX10_about_7 ml_X10_137 ok_X10_isNumber b0 (by decide) rfl rfl rfl (Nat.le_of_ble_eq_true rfl) (by decide) (by decide) (fun r S' hr => ?_)
  obtain ⟨rfl, rfl⟩ := hr
  refine z_if_eq (tgt := 22) F dX10_about_10 (by decide) (fun c2 => ?_) (fun c2 => ?_)
  · have h := zb_f c2
    rw [if_neg h]
    refine z_iconst (v := (-1)) F dX10_about_22 (by decide) ?_
    exact z_iret F dX10_about_23 rfl (oX.same hg hM ht)
  · have h2 := zb_t c2
    rw [if_pos h2]
    refine z_iload_n F dX10_about_13 rfl ?_
    refine z_iconst (v := nI 0) F dX10_about_14 (by decide) ?_
    refine z_iconst (v := nI 3) F dX10_about_15 (by decide) ?_
    refine z_cSz F (m_isIn what (nI 0) (nI 3)) dX10_about_16 ml_X10_119 ok_X10_isIn rfl rfl rfl (Nat.le_of_ble_eq_true rfl) (by decide) (by decide) (fun r S' hr => ?_)
    obtain ⟨rfl, rfl⟩ := hr
    rw [inI_le what (by decide)]
    refine z_if_ne (tgt := 24) F dX10_about_19 (by decide) (fun c3 => ?_) (fun c3 => ?_)
    · have h4 := zb_t c3
      obtain ⟨k, hk, rfl, -⟩ := inI_t h4 (by decide)
      obtain ⟨ja, hja, rfl, eja⟩ := isN_t h2 hcs
      have eTa := hM.2.2.2.1 ja hja
      have oa := bl192' (hO.1 ja hja)
      have ina := hR.inb (f := ja) (by omega)
      have rba := hM.2.1.rb (f := ja) (by omega)
      obtain ⟨hux, hvx, -⟩ := hM.2.1.2 ja (by omega)
      rw [eTa] at rba hux hvx
      have h32 : ¬ nI 32 = 0 := by decide
      rw [eja]
      match k, hk with
      | 0, _ =>
        rw [if_pos (show nI 0 = 0 from rfl)]
        refine z_iload_n F dX10_about_24 rfl ?_
        refine z_if_ne (tgt := 45) F dX10_about_25 (by decide) (fun c4 => ?_) (fun c4 => ?_)
        · exact absurd rfl c4
        · refine z_aload_n F dX10_about_28 rfl ?_
          refine z_getR F dX10_about_29 gr_X10_13 (by assumption) (by assumption) ?_
          refine z_iload_n F dX10_about_32 rfl ?_
          refine z_zald F dX10_about_33 (by assumption) (by assumption) ?_
          refine z_ti rba ?_
          refine z_if_eq (tgt := 41) F dX10_about_34 (by decide) (fun c5 => ?_) (fun c5 => ?_)
          · rw [(zb_eq0 _).mp c5]
            refine z_iconst (v := nI 0) F dX10_about_41 (by decide) ?_
            refine z_goto (tgt := 75) F dX10_about_42 (by decide) ?_
            exact z_iret F dX10_about_75 rfl (oX.same hg hM ht)
          · rw [zb_t c5]
            refine z_iconst (v := nI 1) F dX10_about_37 (by decide) ?_
            refine z_goto (tgt := 75) F dX10_about_38 (by decide) ?_
            exact z_iret F dX10_about_75 rfl (oX.same hg hM ht)
      | 1, _ =>
        rw [if_neg (show ¬ nI 1 = 0 by decide), if_pos (show nI 1 = 1 from rfl)]
        refine z_iload_n F dX10_about_24 rfl ?_
        refine z_if_ne (tgt := 45) F dX10_about_25 (by decide) (fun c4 => ?_) (fun c4 => ?_)
        · refine z_iload_n F dX10_about_45 rfl ?_
          refine z_iconst (v := nI 3) F dX10_about_46 (by decide) ?_
          refine z_icmp_ne (tgt := 58) F dX10_about_47 (by decide) (fun c5 => ?_) (fun c5 => ?_)
          · refine z_aload_n F dX10_about_58 rfl ?_
            refine z_iconst (v := nI 2) F dX10_about_59 (by decide) ?_
            refine z_iload_n F dX10_about_60 rfl ?_
            refine z_imul F dX10_about_61 ?_
            refine z_ti (pk_mul 2 ja) ?_
            refine z_iload_n F dX10_about_62 rfl ?_
            refine z_iadd F dX10_about_63 ?_
            refine z_ti (nI_add _ 1) ?_
            refine z_iconst (v := nI 1) F dX10_about_64 (by decide) ?_
            refine z_isub F dX10_about_65 ?_
            refine z_ti (nI_km1 _) ?_
            refine z_cVi F (m_bitsOf (s := 2 * ja) hR hM.2.1.1 (by omega)) dX10_about_66 ml_X10_65 ok_X10_bitsOf b0 (by decide) rfl rfl rfl (Nat.le_of_ble_eq_true rfl) (by decide) (by decide) (fun r S' hr => ?_)
            obtain ⟨rfl, rfl⟩ := hr
            rw [hux]
            refine z_bipush (v := nI 31) F dX10_about_69 (by decide) ?_
            refine z_iadd F dX10_about_71 ?_
            refine z_ti (nI_add _ 31) ?_
            refine z_bipush (v := nI 32) F dX10_about_72 (by decide) ?_
            refine z_idiv F dX10_about_74 h32 ?_
            refine z_ti ((pk_div (by omega) (by decide) (by decide)).trans (congrArg nI (nl_bl _))) ?_
            exact z_iret F dX10_about_75 rfl (oX.same hg hM ht)
          · exact absurd c5 (by decide)
        · exact absurd c4 (by decide)
      | 2, _ =>
        rw [if_neg (show ¬ nI 2 = 0 by decide), if_neg (show ¬ nI 2 = 1 by decide), if_pos (show nI 2 = 2 from rfl)]
        refine z_iload_n F dX10_about_24 rfl ?_
        refine z_if_ne (tgt := 45) F dX10_about_25 (by decide) (fun c4 => ?_) (fun c4 => ?_)
        · refine z_iload_n F dX10_about_45 rfl ?_
          refine z_iconst (v := nI 3) F dX10_about_46 (by decide) ?_
          refine z_icmp_ne (tgt := 58) F dX10_about_47 (by decide) (fun c5 => ?_) (fun c5 => ?_)
          · refine z_aload_n F dX10_about_58 rfl ?_
            refine z_iconst (v := nI 2) F dX10_about_59 (by decide) ?_
            refine z_iload_n F dX10_about_60 rfl ?_
            refine z_imul F dX10_about_61 ?_
            refine z_ti (pk_mul 2 ja) ?_
            refine z_iload_n F dX10_about_62 rfl ?_
            refine z_iadd F dX10_about_63 ?_
            refine z_ti (nI_add _ 2) ?_
            refine z_iconst (v := nI 1) F dX10_about_64 (by decide) ?_
            refine z_isub F dX10_about_65 ?_
            refine z_ti (nI_km1 (2 * ja + 1)) ?_
            refine z_cVi F (m_bitsOf (s := 2 * ja + 1) hR hM.2.1.1 (by omega)) dX10_about_66 ml_X10_65 ok_X10_bitsOf b0 (by decide) rfl rfl rfl (Nat.le_of_ble_eq_true rfl) (by decide) (by decide) (fun r S' hr => ?_)
            obtain ⟨rfl, rfl⟩ := hr
            rw [hvx]
            refine z_bipush (v := nI 31) F dX10_about_69 (by decide) ?_
            refine z_iadd F dX10_about_71 ?_
            refine z_ti (nI_add _ 31) ?_
            refine z_bipush (v := nI 32) F dX10_about_72 (by decide) ?_
            refine z_idiv F dX10_about_74 h32 ?_
            refine z_ti ((pk_div (by omega) (by decide) (by decide)).trans (congrArg nI (nl_bl _))) ?_
            exact z_iret F dX10_about_75 rfl (oX.same hg hM ht)
          · exact absurd c5 (by decide)
        · exact absurd c4 (by decide)
      | 3, _ =>
        rw [if_neg (show ¬ nI 3 = 0 by decide), if_neg (show ¬ nI 3 = 1 by decide), if_neg (show ¬ nI 3 = 2 by decide), if_pos (show nI 3 = 3 from rfl)]
        refine z_iload_n F dX10_about_24 rfl ?_
        refine z_if_ne (tgt := 45) F dX10_about_25 (by decide) (fun c4 => ?_) (fun c4 => ?_)
        · refine z_iload_n F dX10_about_45 rfl ?_
          refine z_iconst (v := nI 3) F dX10_about_46 (by decide) ?_
          refine z_icmp_ne (tgt := 58) F dX10_about_47 (by decide) (fun c5 => ?_) (fun c5 => ?_)
          · exact absurd rfl c5
          · refine z_aload_n F dX10_about_50 rfl ?_
            refine z_iload_n F dX10_about_51 rfl ?_
            refine z_cVi F (m_sizeOf (f := ja) hR hM.2.1 (by omega)) dX10_about_52 ml_X10_156 ok_X10_sizeOf b0 (by decide) rfl rfl rfl (Nat.le_of_ble_eq_true rfl) (by decide) (by decide) (fun r S' hr => ?_)
            obtain ⟨rfl, rfl⟩ := hr
            rw [eTa]
            refine z_goto (tgt := 75) F dX10_about_55 (by decide) ?_
            exact z_iret F dX10_about_75 rfl (oX.same hg hM ht)
        · exact absurd c4 (by decide)
    · have h4 := zb_f c3
      have hw : ∀ k, k < 4 → ¬ what = nI k := fun k hk e => h4 (by rw [e]; exact inI_nI hk (by decide))
      rw [if_neg (show ¬ what = 0 from hw 0 (by decide)), if_neg (show ¬ what = 1 from hw 1 (by decide)), if_neg (show ¬ what = 2 from hw 2 (by decide)), if_neg (show ¬ what = 3 from hw 3 (by decide))]
      refine z_iconst (v := (-1)) F dX10_about_22 (by decide) ?_
      exact z_iret F dX10_about_23 rfl (oX.same hg hM ht)
set_option maxRecDepth 100000 in
set_option maxHeartbeats 1000000 in
theorem m_limb (x part k : Int32) (hR : mR Z a) (hM : rMT a V n T L s) (hO : sOk n s) : zCt Γ mX10_limb 2 46 0 0 [.ref (a 0), .int x, .int part, .int k] (Z, V) (pI (oT Z a n V (s, opLimb s x part k))) := by
  refine zCt.of [some (.ref (a 0)), some (.int x), some (.int part), some (.int k), none, none] pn_X10_limb rfl (Nat.le_of_ble_eq_true rfl) rfl (fun κ F => ?_)
  obtain ⟨b0, b1, b2, -⟩ := hR.1
  refine z_aload_n F dX10_limb_0 rfl ?_
  refine z_iconst (v := nI 0) F dX10_limb_1 (by decide) ?_
  refine z_putI F dX10_limb_2 pi_X10_52 (zf_9_6 _) (by assumption) ?_
  obtain ⟨V1, e1, hg, ht, hM⟩ := hM.th0
  refine z_V (Z := Z) e1 ?_
  have hcs := hM.2.2.1.1.2.2.1
  generalize hQ : zQ Γ κ (pI (oT Z a n V (s, opLimb s x part k))) 0 0 = Q
  have bad : opLimb s x part k = none → zX Γ κ (Z, V1) 0 0 Q 47 [some (.ref (a 0)), some (.int x), some (.int part), some (.int k), none, none] [] := by
    intro h
    rw [h] at hQ
    subst hQ
    refine z_aload_n F dX10_limb_47 rfl ?_
    refine z_iconst (v := nI 1) F dX10_limb_48 (by decide) ?_
    refine z_putI F dX10_limb_49 pi_X10_52 (zf_9_6 _) (by assumption) ?_
    refine z_iconst (v := nI 0) F dX10_limb_52 (by decide) ?_
    exact z_iret F dX10_limb_53 rfl ⟨rfl, _, _, _, rfl, hg.trans (gM.setI V1 6 _), vI_sI_self _ _ _ _ _, hM.thr _⟩
  refine z_aload_n F dX10_limb_5 rfl ?_
  refine z_iload_n F dX10_limb_6 rfl ?_
  refine z_cVz F (m_isNumber x hR hM) dX10_limb_7 ml_X10_137 ok_X10_isNumber b0 (by decide) rfl rfl rfl (Nat.le_of_ble_eq_true rfl) (by decide) (by decide) (fun r S' hr => ?_)
  obtain ⟨rfl, rfl⟩ := hr
  refine z_if_eq (tgt := 47) F dX10_limb_10 (by decide) (fun c2 => ?_) (fun c2 => ?_)
  · have h := zb_f c2
    exact bad (by unfold opLimb; rw [if_neg (fun z => h z.1)])
  · have h2 := zb_t c2
    refine z_iload_n F dX10_limb_13 rfl ?_
    refine z_iconst (v := nI 0) F dX10_limb_14 (by decide) ?_
    refine z_iconst (v := nI 1) F dX10_limb_15 (by decide) ?_
    refine z_cSz F (m_isIn part (nI 0) (nI 1)) dX10_limb_16 ml_X10_119 ok_X10_isIn rfl rfl rfl (Nat.le_of_ble_eq_true rfl) (by decide) (by decide) (fun r S' hr => ?_)
    obtain ⟨rfl, rfl⟩ := hr
    rw [inI_le part (by decide)]
    refine z_if_eq (tgt := 47) F dX10_limb_19 (by decide) (fun c3 => ?_) (fun c3 => ?_)
    · have h4 := zb_f c3
      have hw : ∀ k, k < 2 → ¬ part = nI k := fun k hk e => h4 (by rw [e]; exact inI_nI hk (by decide))
      exact bad (by unfold opLimb; rw [if_neg (fun z => z.2.1.elim (hw 0 (by decide)) (hw 1 (by decide)))])
    · have h4 := zb_t c3
      obtain ⟨q, hq, rfl, -⟩ := inI_t h4 (by decide)
      obtain ⟨ja, hja, rfl, eja⟩ := isN_t h2 hcs
      have eTa := hM.2.2.2.1 ja hja
      have oa := bl192' (hO.1 ja hja)
      have h32 : ¬ nI 32 = 0 := by decide
      have hpart : nI q = 0 ∨ nI q = 1 := by
        match q, hq with
        | 0, _ => exact Or.inl rfl
        | 1, _ => exact Or.inr rfl
      obtain ⟨y, hy⟩ : ∃ y, y = if nI q = 0 then (tn s ja).2.1 else (tn s ja).2.2 := ⟨_, rfl⟩
      have hLy : L (2 * ja + q) = y := by
        obtain ⟨hux, hvx, -⟩ := hM.2.1.2 ja (by omega)
        rw [eTa] at hux hvx
        match q, hq, hy with
        | 0, _, hy => rw [hy, if_pos (show nI 0 = 0 from rfl)]; exact hux
        | 1, _, hy => rw [hy, if_neg (show ¬ nI 1 = 0 by decide)]; exact hvx
      have hbl : bl y ≤ 192 := by rw [hy]; split; exact oa.1; exact oa.2
      have hnl : nl y ≤ 6 := by rw [← nl_bl]; omega
      have hop : opLimb s (nI ja) (nI q) k = if inI k (nl y) = true then some (nI (y / 4294967296 ^ an k % 4294967296)) else none := by
        unfold opLimb
        rw [eja, ← hy]
        by_cases h : inI k (nl y) = true
        · rw [if_pos ⟨h2, hpart, h⟩, if_pos h]
        · rw [if_neg (fun z => h z.2.2), if_neg h]
      refine z_iload_n F dX10_limb_22 rfl ?_
      refine z_iconst (v := nI 0) F dX10_limb_23 (by decide) ?_
      refine z_aload_n F dX10_limb_24 rfl ?_
      refine z_iconst (v := nI 2) F dX10_limb_25 (by decide) ?_
      refine z_iload_n F dX10_limb_26 rfl ?_
      refine z_imul F dX10_limb_27 ?_
      refine z_ti (pk_mul 2 ja) ?_
      refine z_iload_n F dX10_limb_28 rfl ?_
      refine z_iadd F dX10_limb_29 ?_
      refine z_ti (nI_add _ _) ?_
      refine z_cVi F (m_bitsOf (s := 2 * ja + q) hR hM.2.1.1 (by omega)) dX10_limb_30 ml_X10_65 ok_X10_bitsOf b0 (by decide) rfl rfl rfl (Nat.le_of_ble_eq_true rfl) (by decide) (by decide) (fun r S' hr => ?_)
      obtain ⟨rfl, rfl⟩ := hr
      rw [hLy]
      refine z_bipush (v := nI 31) F dX10_limb_33 (by decide) ?_
      refine z_iadd F dX10_limb_35 ?_
      refine z_ti (nI_add _ 31) ?_
      refine z_bipush (v := nI 32) F dX10_limb_36 (by decide) ?_
      refine z_idiv F dX10_limb_38 h32 ?_
      refine z_ti ((pk_div (by omega) (by decide) (by decide)).trans (congrArg nI (nl_bl _))) ?_
      refine z_iconst (v := nI 1) F dX10_limb_39 (by decide) ?_
      refine z_isub F dX10_limb_40 ?_
      refine z_cSz F (m_isIn k (nI 0) (nI (nl y) - nI 1)) dX10_limb_41 ml_X10_119 ok_X10_isIn rfl rfl rfl (Nat.le_of_ble_eq_true rfl) (by decide) (by decide) (fun r S' hr => ?_)
      obtain ⟨rfl, rfl⟩ := hr
      rw [inI_m1 k (show nl y < 1000 by omega)]
      refine z_if_ne (tgt := 54) F dX10_limb_44 (by decide) (fun c4 => ?_) (fun c4 => ?_)
      · have h5 := zb_t c4
        rw [if_pos h5] at hop
        obtain ⟨j, hj, rfl, ej⟩ := inI_t h5 (show nl y < 2147483648 by omega)
        rw [ej] at hop
        rw [hop] at hQ
        have e32 : (4294967296 : Nat) = 2 ^ 32 := by decide
        have loop : ∀ (d i : Nat), i + d = 32 → zX Γ κ (Z, V1) 0 0 Q 60 [some (.ref (a 0)), some (.int (nI ja)), some (.int (nI q)), some (.int (nI j)), some (.int (nI (y / 2 ^ (32 * j) % 2 ^ i))), some (.int (nI i))] [] := by
          intro d
          induction d with
          | zero =>
            intro i hi
            refine z_iload F dX10_limb_60 rfl ?_
            refine z_bipush (v := nI 32) F dX10_limb_62 (by decide) ?_
            refine z_icmp_ge (tgt := 97) F dX10_limb_64 (by decide) (fun c5 => ?_) (fun c5 => ?_)
            · subst hQ
              have e : y / 2 ^ (32 * j) % 2 ^ i = y / 4294967296 ^ j % 4294967296 := by rw [show i = 32 by omega, Nat.pow_mul, ← e32]
              rw [e]
              refine z_iload F dX10_limb_97 rfl ?_
              exact z_iret F dX10_limb_99 rfl (oX.same hg hM ht)
            · exact absurd (nI_le (a := 32) (by omega) (by omega)) c5
          | succ d ih =>
            intro i hi
            have hm : y / 2 ^ (32 * j) % 2 ^ i < 2 ^ i := Nat.mod_lt _ (Nat.pow_pos (by decide))
            have eb : y / 2 ^ (32 * j + i) % 2 = y / 2 ^ (32 * j) / 2 ^ i % 2 := by rw [Nat.div_div_eq_div_mul, ← Nat.pow_add]
            refine z_iload F dX10_limb_60 rfl ?_
            refine z_bipush (v := nI 32) F dX10_limb_62 (by decide) ?_
            refine z_icmp_ge (tgt := 97) F dX10_limb_64 (by decide) (fun c5 => ?_) (fun c5 => ?_)
            · exact absurd ((nI_leI (a := 32) (by omega) (by omega)).mp c5) (by omega)
            · refine z_iload F dX10_limb_67 rfl ?_
              refine z_aload_n F dX10_limb_69 rfl ?_
              refine z_iconst (v := nI 2) F dX10_limb_70 (by decide) ?_
              refine z_iload_n F dX10_limb_71 rfl ?_
              refine z_imul F dX10_limb_72 ?_
              refine z_ti (pk_mul 2 ja) ?_
              refine z_iload_n F dX10_limb_73 rfl ?_
              refine z_iadd F dX10_limb_74 ?_
              refine z_ti (nI_add _ _) ?_
              refine z_bipush (v := nI 32) F dX10_limb_75 (by decide) ?_
              refine z_iload_n F dX10_limb_77 rfl ?_
              refine z_imul F dX10_limb_78 ?_
              refine z_ti (pk_mul 32 j) ?_
              refine z_iload F dX10_limb_79 rfl ?_
              refine z_iadd F dX10_limb_81 ?_
              refine z_ti (nI_add _ _) ?_
              refine z_cVi F (m_bitAt (s := 2 * ja + q) (k := 32 * j + i) hR hM.2.1.1 (by omega) (by omega)) dX10_limb_82 ml_X10_68 ok_X10_bitAt b0 (by decide) rfl rfl rfl (Nat.le_of_ble_eq_true rfl) (by decide) (by decide) (fun r S' hr => ?_)
              obtain ⟨rfl, rfl⟩ := hr
              rw [hLy, eb]
              refine z_iload F dX10_limb_85 rfl ?_
              refine z_ishl F dX10_limb_87 ?_
              refine z_ior F dX10_limb_88 ?_
              refine z_ti ((or_bit hm (by omega) (by omega)).trans (congrArg nI (mod_bit _ _))) ?_
              refine z_istore_4 F dX10_limb_89 rfl ?_
              refine z_iinc_5 F dX10_limb_91 rfl ?_
              refine z_goto (tgt := 60) F dX10_limb_94 (by decide) ?_
              rw [show nI i + Int32.ofInt 1 = nI (i + 1) from nI_1 i]
              exact ih (i + 1) (by omega)
        refine z_iconst (v := nI 0) F dX10_limb_54 (by decide) ?_
        refine z_istore_4 F dX10_limb_55 rfl ?_
        refine z_iconst (v := nI 0) F dX10_limb_57 (by decide) ?_
        refine z_istore_5 F dX10_limb_58 rfl ?_
        have := loop 32 0 rfl
        rw [Nat.pow_zero, Nat.mod_one] at this
        exact this
      · have h5 := zb_f c4
        rw [if_neg h5] at hop
        exact bad hop
set_option maxRecDepth 100000 in
theorem m_entry (i j : Int32) (u v : Int64) (hR : mR Z a) (hM : rMT a V n T L s) : zCt Γ mX10_entry 5 125 0 0 [.ref (a 0), .int i, .int j, .long u, .long v] (Z, V) (pI (oX Z a n V 0 (opEntry n s i j u v))) := by
  refine zCt.of [some (.ref (a 0)), some (.int i), some (.int j), some (.long u), none, some (.long v), none] pn_X10_entry rfl (Nat.le_of_ble_eq_true rfl) rfl (fun κ F => ?_)
  obtain ⟨b0, b1, b2, -⟩ := hR.1
  refine z_aload_n F dX10_entry_0 rfl ?_
  refine z_iconst (v := nI 0) F dX10_entry_1 (by decide) ?_
  refine z_putI F dX10_entry_2 pi_X10_52 (zf_9_6 _) (by assumption) ?_
  obtain ⟨V1, e1, hg, ht, hM⟩ := hM.th0
  refine z_V (Z := Z) e1 ?_
  have hcs := hM.2.2.1.1.2.2.1
  unfold opEntry
  refine z_aload_n F dX10_entry_5 rfl ?_
  refine z_iload_n F dX10_entry_6 rfl ?_
  refine z_iload_n F dX10_entry_7 rfl ?_
  refine z_cVz F (m_isEntry i j hR hM) dX10_entry_8 ml_X10_159 ok_X10_isEntry b0 (by decide) rfl rfl rfl (Nat.le_of_ble_eq_true rfl) (by decide) (by decide) (fun r S' hr => ?_)
  obtain ⟨rfl, rfl⟩ := hr
  refine z_if_ne (tgt := 16) F dX10_entry_11 (by decide) (fun c => ?_) (fun c => ?_)
  · have h := zb_t c
    rw [if_pos h]
    obtain ⟨p, k, hp, hk, rfl, rfl, ep, ek⟩ := isE_t h hM.1.2
    rw [ep, ek]
    refine z_lload F dX10_entry_16 rfl ?_
    refine z_lconst (v := lN 0) F dX10_entry_18 (by decide) ?_
    refine z_lcmp F dX10_entry_19 ?_
    refine z_if_ne (tgt := 26) F dX10_entry_20 (by decide) (fun c2 => ?_) (fun c2 => ?_)
    · have hv : ¬ v = 0 := fun z => c2 ((lg_cmp_eq _ _).mpr z)
      have hn := hM.1
      rw [if_neg hv]
      refine z_aload_n F dX10_entry_26 rfl ?_
      refine z_bipush (v := nI 40) F dX10_entry_27 (by decide) ?_
      refine z_bipush (v := nI 6) F dX10_entry_29 (by decide) ?_
      refine z_iload_n F dX10_entry_31 rfl ?_
      refine z_imul F dX10_entry_32 ?_
      refine z_ti (pk_mul 6 p) ?_
      refine z_iadd F dX10_entry_33 ?_
      refine z_ti (nI_add 40 _) ?_
      refine z_iload_n F dX10_entry_34 rfl ?_
      refine z_iadd F dX10_entry_35 ?_
      refine z_ti (nI_add _ _) ?_
      refine z_lload_n F dX10_entry_36 rfl ?_
      refine z_lload F dX10_entry_37 rfl ?_
      refine z_cVv F (m_setFraction (f := 40 + 6 * p + k) u v hR hM.2.1 (by omega) hv) dX10_entry_39 ml_X10_133 ok_X10_setFraction b0 (by decide) rfl rfl rfl (Nat.le_of_ble_eq_true rfl) (by decide) (by decide) (fun S' hS' => ?_)
      obtain ⟨V2, L2, rfl, hE2, hL2⟩ := hS'
      have ht2 : vI V2 9 6 (a 0) = 0 := by rw [hE2.i]; exact ht
      have hM2 : rMT a V2 n (va_up T (40 + 6 * p + k) (fratio u v)) L2 (wM s (up2 (tm s) p k (fratio u v))) := by
        obtain ⟨q0, q1, q2, q3, q4, q5, q6⟩ := hM
        refine ⟨q0, hL2, q2.m hR hE2, fun i hi => ?_, fun p' k' hp' hk' => ?_, fun w hw hw1 j hj => ?_, ?_⟩
        · have hi' : i < tc s := hi
          rw [up_ne _ _ (by omega)]; exact q3 i hi
        · by_cases e : p' = p ∧ k' = k
          · rw [e.1, e.2, up_self]
            exact (up2_self _ _ _ _).symm
          · rw [up_ne _ _ (by omega)]
            exact (q4 p' k' hp' hk').trans (up2_ne _ _ e).symm
        · rw [up_ne _ _ (by omega)]; exact q5 w hw hw1 j hj
        · rw [up_ne _ _ (by omega)]; exact q6
      refine z_iconst (v := nI 1) F dX10_entry_42 (by decide) ?_
      exact z_iret F dX10_entry_43 rfl ⟨rfl, _, _, _, rfl, hg.trans (gM.ofM hE2), ht2, hM2⟩
    · have hv : v = 0 := (lg_cmp_eq _ _).mp c2
      rw [if_pos hv]
      refine z_bipush (v := (-2)) F dX10_entry_23 (by decide) ?_
      exact z_iret F dX10_entry_25 rfl (oX.same hg hM ht)
  · have h := zb_f c
    rw [if_neg h]
    refine z_iconst (v := (-1)) F dX10_entry_14 (by decide) ?_
    exact z_iret F dX10_entry_15 rfl (oX.same hg hM ht)
set_option maxRecDepth 100000 in
theorem m_put (i j x : Int32) (hR : mR Z a) (hM : rMT a V n T L s) : zCt Γ mX10_put 2 45 0 0 [.ref (a 0), .int i, .int j, .int x] (Z, V) (pI (oX Z a n V 0 (opPut n s i j x))) := by
  refine zCt.of [some (.ref (a 0)), some (.int i), some (.int j), some (.int x)] pn_X10_put rfl (Nat.le_of_ble_eq_true rfl) rfl (fun κ F => ?_)
  obtain ⟨b0, b1, b2, -⟩ := hR.1
  refine z_aload_n F dX10_put_0 rfl ?_
  refine z_iconst (v := nI 0) F dX10_put_1 (by decide) ?_
  refine z_putI F dX10_put_2 pi_X10_52 (zf_9_6 _) (by assumption) ?_
  obtain ⟨V1, e1, hg, ht, hM⟩ := hM.th0
  refine z_V (Z := Z) e1 ?_
  have hcs := hM.2.2.1.1.2.2.1
  unfold opPut
  refine z_aload_n F dX10_put_5 rfl ?_
  refine z_iload_n F dX10_put_6 rfl ?_
  refine z_iload_n F dX10_put_7 rfl ?_
  refine z_cVz F (m_isEntry i j hR hM) dX10_put_8 ml_X10_159 ok_X10_isEntry b0 (by decide) rfl rfl rfl (Nat.le_of_ble_eq_true rfl) (by decide) (by decide) (fun r S' hr => ?_)
  obtain ⟨rfl, rfl⟩ := hr
  refine z_if_eq (tgt := 22) F dX10_put_11 (by decide) (fun c => ?_) (fun c => ?_)
  · have h := zb_f c
    rw [if_neg (fun z => h (Bool.and_eq_true_iff.mp z).1)]
    refine z_iconst (v := (-1)) F dX10_put_22 (by decide) ?_
    exact z_iret F dX10_put_23 rfl (oX.same hg hM ht)
  · have h := zb_t c
    obtain ⟨p, k, hp, hk, rfl, rfl, ep, ek⟩ := isE_t h hM.1.2
    refine z_aload_n F dX10_put_14 rfl ?_
    refine z_iload_n F dX10_put_15 rfl ?_
    refine z_cVz F (m_isNumber x hR hM) dX10_put_16 ml_X10_137 ok_X10_isNumber b0 (by decide) rfl rfl rfl (Nat.le_of_ble_eq_true rfl) (by decide) (by decide) (fun r S' hr => ?_)
    obtain ⟨rfl, rfl⟩ := hr
    refine z_if_ne (tgt := 24) F dX10_put_19 (by decide) (fun c2 => ?_) (fun c2 => ?_)
    · have h2 := zb_t c2
      obtain ⟨ja, hja, rfl, eja⟩ := isN_t h2 hcs
      have hn := hM.1
      have eTa := hM.2.2.2.1 ja hja
      rw [if_pos (by rw [h, h2]; rfl), ep, ek, eja]
      refine z_aload_n F dX10_put_24 rfl ?_
      refine z_iload_n F dX10_put_25 rfl ?_
      refine z_bipush (v := nI 40) F dX10_put_26 (by decide) ?_
      refine z_bipush (v := nI 6) F dX10_put_28 (by decide) ?_
      refine z_iload_n F dX10_put_30 rfl ?_
      refine z_imul F dX10_put_31 ?_
      refine z_ti (pk_mul 6 p) ?_
      refine z_iadd F dX10_put_32 ?_
      refine z_ti (nI_add 40 _) ?_
      refine z_iload_n F dX10_put_33 rfl ?_
      refine z_iadd F dX10_put_34 ?_
      refine z_ti (nI_add _ _) ?_
      refine z_cVv F (m_same (f := ja) (g := 40 + 6 * p + k) hR hM.2.1 (by omega) (by omega)) dX10_put_35 ml_X10_126 ok_X10_same b0 (by decide) rfl rfl rfl (Nat.le_of_ble_eq_true rfl) (by decide) (by decide) (fun S' hS' => ?_)
      obtain ⟨V2, L2, rfl, hE2, hL2⟩ := hS'
      rw [eTa] at hL2
      have ht2 : vI V2 9 6 (a 0) = 0 := by rw [hE2.i]; exact ht
      have hM2 : rMT a V2 n (va_up T (40 + 6 * p + k) (tn s ja)) L2 (wM s (up2 (tm s) p k (tn s ja))) := by
        obtain ⟨q0, q1, q2, q3, q4, q5, q6⟩ := hM
        refine ⟨q0, hL2, q2.m hR hE2, fun i hi => ?_, fun p' k' hp' hk' => ?_, fun w hw hw1 j hj => ?_, ?_⟩
        · have hi' : i < tc s := hi
          rw [up_ne _ _ (by omega)]; exact q3 i hi
        · by_cases e : p' = p ∧ k' = k
          · rw [e.1, e.2, up_self]
            exact (up2_self _ _ _ _).symm
          · rw [up_ne _ _ (by omega)]
            exact (q4 p' k' hp' hk').trans (up2_ne _ _ e).symm
        · rw [up_ne _ _ (by omega)]; exact q5 w hw hw1 j hj
        · rw [up_ne _ _ (by omega)]; exact q6
      refine z_iconst (v := nI 1) F dX10_put_38 (by decide) ?_
      exact z_iret F dX10_put_39 rfl ⟨rfl, _, _, _, rfl, hg.trans (gM.ofM hE2), ht2, hM2⟩
    · have h2 := zb_f c2
      rw [if_neg (fun z => h2 (Bool.and_eq_true_iff.mp z).2)]
      refine z_iconst (v := (-1)) F dX10_put_22 (by decide) ?_
      exact z_iret F dX10_put_23 rfl (oX.same hg hM ht)
set_option maxRecDepth 100000 in
theorem m_take (i j : Int32) (hR : mR Z a) (hM : rMT a V n T L s) : zCt Γ mX10_take 3 66 0 0 [.ref (a 0), .int i, .int j] (Z, V) (pI (oX Z a n V 0 (opTake n s i j))) := by
  refine zCt.of [some (.ref (a 0)), some (.int i), some (.int j)] pn_X10_take rfl (Nat.le_of_ble_eq_true rfl) rfl (fun κ F => ?_)
  obtain ⟨b0, b1, b2, -⟩ := hR.1
  refine z_aload_n F dX10_take_0 rfl ?_
  refine z_iconst (v := nI 0) F dX10_take_1 (by decide) ?_
  refine z_putI F dX10_take_2 pi_X10_52 (zf_9_6 _) (by assumption) ?_
  obtain ⟨V1, e1, hg, ht, hM⟩ := hM.th0
  refine z_V (Z := Z) e1 ?_
  have hcs := hM.2.2.1.1.2.2.1
  have h3 := hM.2.2.1.1.2.1
  unfold opTake keepC
  refine z_aload_n F dX10_take_5 rfl ?_
  refine z_iload_n F dX10_take_6 rfl ?_
  refine z_iload_n F dX10_take_7 rfl ?_
  refine z_cVz F (m_isEntry i j hR hM) dX10_take_8 ml_X10_159 ok_X10_isEntry b0 (by decide) rfl rfl rfl (Nat.le_of_ble_eq_true rfl) (by decide) (by decide) (fun r S' hr => ?_)
  obtain ⟨rfl, rfl⟩ := hr
  refine z_if_ne (tgt := 16) F dX10_take_11 (by decide) (fun c => ?_) (fun c => ?_)
  · have h := zb_t c
    rw [if_pos h]
    obtain ⟨p, k, hp, hk, rfl, rfl, ep, ek⟩ := isE_t h hM.1.2
    rw [ep, ek]
    have hn := hM.1
    have eT := hM.2.2.2.2.1 p k hp hk
    refine z_aload_n F dX10_take_16 rfl ?_
    refine z_getI F dX10_take_17 gi_X10_116 (by assumption) ?_
    refine z_ti h3 ?_
    refine z_bipush (v := nI 40) F dX10_take_20 (by decide) ?_
    refine z_icmp_ne (tgt := 30) F dX10_take_22 (by decide) (fun c2 => ?_) (fun c2 => ?_)
    · have h := mt (eq40 hcs).mpr c2
      have h40 := full_f h
      rw [if_neg h, ← eT]
      refine z_aload_n F dX10_take_30 rfl ?_
      refine z_bipush (v := nI 40) F dX10_take_31 (by decide) ?_
      refine z_bipush (v := nI 6) F dX10_take_33 (by decide) ?_
      refine z_iload_n F dX10_take_35 rfl ?_
      refine z_imul F dX10_take_36 ?_
      refine z_ti (pk_mul 6 p) ?_
      refine z_iadd F dX10_take_37 ?_
      refine z_ti (nI_add 40 _) ?_
      refine z_iload_n F dX10_take_38 rfl ?_
      refine z_iadd F dX10_take_39 ?_
      refine z_ti (nI_add _ _) ?_
      refine z_cVi F (m_asNumber (f := 40 + 6 * p + k) hR hM ht h40 (by omega)) dX10_take_40 ml_X10_150 ok_X10_asNumber b0 (by decide) rfl rfl rfl (Nat.le_of_ble_eq_true rfl) (by decide) (by decide) (fun r S' hr => ?_)
      exact z_iret F dX10_take_43 rfl (oX.after hg hr)
    · have h := (eq40 hcs).mp c2
      rw [if_pos h]
      refine z_bipush (v := (-4)) F dX10_take_25 (by decide) ?_
      refine z_goto (tgt := 43) F dX10_take_27 (by decide) ?_
      exact z_iret F dX10_take_43 rfl (oX.same hg hM ht)
  · have h := zb_f c
    rw [if_neg h]
    refine z_iconst (v := (-1)) F dX10_take_14 (by decide) ?_
    exact z_iret F dX10_take_15 rfl (oX.same hg hM ht)
end MOD12
