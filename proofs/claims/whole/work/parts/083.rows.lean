/-! ===== FractionRows: about, entry, put, take, answers, pivot, unknown ===== -/
theorem toI_out {x : Int32} {n : Nat} (hn : n < 1000) (h : ∀ k, k ≤ n → x ≠ nI k) : x.toInt < 0 ∨ (n : Int) < x.toInt := by
  rcases Decidable.em (x.toInt < 0) with z | z
  · exact Or.inl z
  · right
    rcases Decidable.em ((n : Int) < x.toInt) with y | y
    · exact y
    · exfalso
      refine h x.toInt.toNat (by omega) (Int32.toInt_inj.mp ?_)
      rw [nI_toInt (by omega)]
      omega
section ROWS3
variable {Γ : Gm} {Z : Hz} {G : Ga} {V : Hv} {T : Nat → Fr} {X : Nat → Nat} {s : St}
/-- a NUMBER's Wholes -/
theorem KS.whole {q : Nat} (hK : KS Z G.uo G.vo G.w V T X) (hS : fS Z G.uo G.vo G.w) (hq : zIn Z q 3) : vI V 3 2 q = zb (T q).1 ∧ vI V 7 1 (G.uo q) = nI (nl (T q).2.1) ∧ vI V 7 1 (G.vo q) = nI (nl (T q).2.2) ∧ (∃ g, wh Z (G.uo q) g ∧ vv V (G.uo q) g (T q).2.1) ∧ ∃ g, wh Z (G.vo q) g ∧ vv V (G.vo q) g (T q).2.2 := by
  obtain ⟨val, bel, hC, hT, hX⟩ := hK
  obtain ⟨f0', f1', f2', ⟨gu, hu⟩, ⟨gv, hv⟩⟩ := (hS.1 q hq).1
  rw [← (hT q hq).1]
  exact ⟨hC.2 q hq, (hC.1 _ _ hu).2, (hC.1 _ _ hv).2, ⟨gu, hu, hC.1 _ _ hu⟩, gv, hv, hC.1 _ _ hv⟩
set_option maxRecDepth 100000 in
theorem c_about (a what : Int32) (hR : xR Z G) (hC : rCT Z G V T X s) : zCt Γ mX9_about 3 61 0 0 [.ref G.x, .int a, .int what] (Z, V) (pI (oP Z G V (s, opAbout s a what))) := by
  refine zCt.of [some (.ref G.x), some (.int a), some (.int what), none] pn_X9_about rfl (Nat.le_of_ble_eq_true rfl) rfl (fun κ F => ?_)
  obtain ⟨b0, b1, b2, -⟩ := hR.1
  obtain ⟨hJ, hS, hA⟩ := hR.2.1
  have hcs := hC.2.1.2.2.1
  refine z_aload_n F dX9_about_0 rfl ?_
  refine z_iload_n F dX9_about_1 rfl ?_
  refine z_cVz F (c_isNumber a hR hC) dX9_about_2 ml_X9_96 ok_X9_isNumber b0 (by decide) rfl rfl rfl (Nat.le_of_ble_eq_true rfl) (by decide) (by decide) (fun r S' hr => ?_)
  obtain ⟨rfl, rfl⟩ := hr
  unfold opAbout
  refine z_if_ne (tgt := 10) F dX9_about_5 (by decide) (fun c => ?_) (fun c => ?_)
  · have h := zb_t c
    obtain ⟨ja, hja, rfl, eja⟩ := isN_t h hcs
    obtain ⟨pa1, pa2, pa3, pa4⟩ := hR.num (show ja < 40 by omega)
    rw [if_pos h, eja]
    obtain ⟨f1, f2, f3, f4, f5⟩ := (hS.1 _ pa3).1
    obtain ⟨k1, k2, k3, ⟨gu, hu, -⟩, gv, hv, -⟩ := hC.1.whole hS pa3
    have eT := hC.2.2.1 ja hja
    rw [eT] at k1 k2 k3
    have ou := hu.1
    have ov := hv.1
    refine z_aload_n F dX9_about_10 rfl ?_
    refine z_getR F dX9_about_11 gr_X9_35 (by assumption) (by assumption) ?_
    refine z_iload_n F dX9_about_14 rfl ?_
    refine z_aald F dX9_about_15 (by assumption) pa1 pa2 ?_
    refine z_astore_n_3 F dX9_about_16 rfl ?_
    refine z_iload_n F dX9_about_17 rfl ?_
    by_cases w0 : what = 0
    · subst w0
      refine z_tsIn (off := 30) (tgt := 48) F dX9_about_18 (by decide) (by decide) rfl (by decide) ?_
      rw [if_pos rfl]
      refine z_aload_n F dX9_about_48 rfl ?_
      refine z_getI F dX9_about_49 gi_X9_121 (by assumption) ?_
      refine z_ti k1 ?_
      refine z_if_eq (tgt := 59) F dX9_about_52 (by decide) (fun c2 => ?_) (fun c2 => ?_)
      · have h2 := (zb_eq0 _).mp c2
        rw [h2]
        refine z_iconst (v := nI 0) F dX9_about_59 (by decide) ?_
        exact z_iret F dX9_about_60 rfl (oP.same hC)
      · have h2 := zb_t c2
        rw [h2]
        refine z_iconst (v := nI 1) F dX9_about_55 (by decide) ?_
        refine z_goto (tgt := 60) F dX9_about_56 (by decide) ?_
        exact z_iret F dX9_about_60 rfl (oP.same hC)
    · rw [if_neg w0]
      by_cases w1 : what = 1
      · subst w1
        refine z_tsIn (off := 43) (tgt := 61) F dX9_about_18 (by decide) (by decide) rfl (by decide) ?_
        rw [if_pos rfl]
        refine z_aload_n F dX9_about_61 rfl ?_
        refine z_getR F dX9_about_62 gr_X9_125 (by assumption) (by assumption) ?_
        refine z_getI F dX9_about_65 gi_X9_129 (by assumption) ?_
        refine z_ti k2 ?_
        exact z_iret F dX9_about_68 rfl (oP.same hC)
      · rw [if_neg w1]
        by_cases w2 : what = 2
        · subst w2
          refine z_tsIn (off := 51) (tgt := 69) F dX9_about_18 (by decide) (by decide) rfl (by decide) ?_
          rw [if_pos rfl]
          refine z_aload_n F dX9_about_69 rfl ?_
          refine z_getR F dX9_about_70 gr_X9_134 (by assumption) (by assumption) ?_
          refine z_getI F dX9_about_73 gi_X9_129 (by assumption) ?_
          refine z_ti k3 ?_
          exact z_iret F dX9_about_76 rfl (oP.same hC)
        · rw [if_neg w2]
          by_cases w3 : what = 3
          · subst w3
            refine z_tsIn (off := 59) (tgt := 77) F dX9_about_18 (by decide) (by decide) rfl (by decide) ?_
            rw [if_pos rfl]
            refine z_aload_n F dX9_about_77 rfl ?_
            refine z_cVi F (K_size hC.1 hS pa3) dX9_about_78 ml_X9_137 ok_X3_size pa3 (by decide) rfl rfl rfl (Nat.le_of_ble_eq_true rfl) (by decide) (by decide) (fun r S' hr => ?_)
            obtain ⟨rfl, rfl⟩ := hr
            rw [eT]
            exact z_iret F dX9_about_81 rfl (oP.same hC)
          · rw [if_neg w3]
            refine z_tsOut (tgt := 82) F dX9_about_18 (toI_out (n := 3) (by decide) (fun k hk => ?_)) (by decide) ?_
            · match k, hk with
              | 0, _ => exact w0
              | 1, _ => exact w1
              | 2, _ => exact w2
              | 3, _ => exact w3
            refine z_iconst (v := (-1)) F dX9_about_82 (by decide) ?_
            exact z_iret F dX9_about_83 rfl (oP.same hC)
  · have h := zb_f c
    rw [if_neg h]
    refine z_iconst (v := (-1)) F dX9_about_8 (by decide) ?_
    exact z_iret F dX9_about_9 rfl (oP.same hC)
theorem isE_t {n : Nat} {i j : Int32} (h : isE n i j = true) (hn : n ≤ 5) : ∃ p k, p < n ∧ k ≤ n ∧ i = nI p ∧ j = nI k ∧ an i = p ∧ an j = k := by
  unfold isE at h
  rw [Bool.and_eq_true] at h
  obtain ⟨p, hp, e1, e2⟩ := inI_t h.1 (by omega)
  obtain ⟨k, hk, e3, e4⟩ := inI_t h.2 (by omega)
  exact ⟨p, k, hp, by omega, e1, e3, e2, e4⟩
theorem xR.ent {p k : Nat} (hR : xR Z G) (hp : p < G.n) (hk : k ≤ G.n) : zIn Z (G.ee (p * (G.n + 1) + k)) 3 := (hR.2.2.1.2.2.2 _ (idx_lt hp hk)).2
/-- an ENTRY changes -/
theorem rCT.ent {V1 : Hv} {p k : Nat} {y : Fr} (hR : xR Z G) (hC : rCT Z G V T X s) (hp : p < G.n) (hk : k ≤ G.n) (hK : KS Z G.uo G.vo G.w V1 (va_up T (G.ee (p * (G.n + 1) + k)) y) X) (hF : eF Z V V1) : rC Z G V1 (wM s (up2 (tm s) p k y)) := by
  obtain ⟨-, -, -, -, ⟨⟨d1, d2, -, -, -, -, d7, -, -⟩, -, -, dn, de⟩⟩ := id hR
  obtain ⟨-, ⟨i1, i2, i3, i4, i5, i6⟩, hn, hm, ⟨s1, s2, s3⟩, ⟨j1, j2, j3, j4, j5⟩, hy, y1, y2, y3⟩ := hC
  obtain ⟨v1, v2, v3, v4, v5, v6, v7, v8, v9, v10⟩ := vEq.ofF hR hF
  have hlt := idx_lt hp hk
  refine ⟨_, X, hK, ⟨(v1 0).trans i1, (v1 9).trans i2, i3, (v1 10).trans i4, v2.trans i5, v3.trans i6⟩, fun i hi => ?_, fun p' k' hp' hk' => ?_, ⟨(v4 0).trans s1, (v4 8).trans s2, fun x hx9 => ?_⟩, ⟨j1, j2, (v5 9).trans j3, j4, j5⟩, hy, (v6 5).trans y1, fun i hi => by rw [v10]; exact y2 i hi, y3⟩
  · have hi' : i < tc s := hi
    rw [up_ne _ _ (fun e => by have := d1 i (by omega); rw [e, d2 _ hlt] at this; omega)]
    exact hn i hi
  · show va_up T _ y _ = up2 (tm s) p k y p' k'
    by_cases e : p' = p ∧ k' = k
    · rw [e.1, e.2, up_self, up2_self]
    · rw [up2_ne _ _ e, up_ne _ _ (fun z => e (idx_inj hk' hk (de _ _ (idx_lt hp' hk') hlt z)))]
      exact hm p' k' hp' hk'
  · obtain ⟨q1, q2, q3, q4, q5⟩ := s3 x hx9
    exact ⟨(v4 9).trans q1, (v4 10).trans q2, q3, fun p hp => by rw [v7, v8, v9]; exact q4 p hp, fun hx1 j hj => by
      rw [up_ne _ _ (fun e => by have := d7 j hj; rw [e, d2 _ hlt] at this; omega)]
      exact q5 hx1 j hj⟩
set_option maxRecDepth 100000 in
theorem c_entry (i j : Int32) (u v : Int64) (hR : xR Z G) (hC : rCT Z G V T X s) : zCt Γ mX9_entry 5 140 0 0 [.ref G.x, .int i, .int j, .long u, .long v] (Z, V) (pI (oP Z G V (opEntry G.n s i j u v))) := by
  refine zCt.of [some (.ref G.x), some (.int i), some (.int j), some (.long u), none, some (.long v), none] pn_X9_entry rfl (Nat.le_of_ble_eq_true rfl) rfl (fun κ F => ?_)
  obtain ⟨b0, b1, b2, -⟩ := hR.1
  obtain ⟨hJ, hS, hA⟩ := hR.2.1
  have hn5 := hR.n5
  unfold opEntry
  refine z_aload_n F dX9_entry_0 rfl ?_
  refine z_iload_n F dX9_entry_1 rfl ?_
  refine z_iload_n F dX9_entry_2 rfl ?_
  refine z_cVz F (c_isEntry i j hR hC) dX9_entry_3 ml_X9_154 ok_X9_isEntry b0 (by decide) rfl rfl rfl (Nat.le_of_ble_eq_true rfl) (by decide) (by decide) (fun r S' hr => ?_)
  obtain ⟨rfl, rfl⟩ := hr
  refine z_if_ne (tgt := 11) F dX9_entry_6 (by decide) (fun c => ?_) (fun c => ?_)
  · have h := zb_t c
    rw [if_pos h]
    obtain ⟨p, k, hp, hk, rfl, rfl, e1, e2⟩ := isE_t h hn5.2
    rw [e1, e2]
    refine z_lload F dX9_entry_11 rfl ?_
    refine z_lconst (v := lN 0) F dX9_entry_13 (by decide) ?_
    refine z_lcmp F dX9_entry_14 ?_
    refine z_if_ne (tgt := 21) F dX9_entry_15 (by decide) (fun c2 => ?_) (fun c2 => ?_)
    · have hv : ¬ v = 0 := fun z => c2 ((lg_cmp_eq _ _).mpr z)
      rw [if_neg hv]
      have ze := hR.ent hp hk
      refine z_aload_n F dX9_entry_21 rfl ?_
      refine z_getR F dX9_entry_22 gr_X9_25 (by assumption) (by assumption) ?_
      refine z_lload_n F dX9_entry_25 rfl ?_
      refine z_lload F dX9_entry_26 rfl ?_
      refine z_aload_n F dX9_entry_28 rfl ?_
      refine z_iload_n F dX9_entry_29 rfl ?_
      refine z_iload_n F dX9_entry_30 rfl ?_
      refine z_cVr F (c_entryAt hR hC hp hk) dX9_entry_31 ml_X9_158 ok_X9_entryAt b0 (by decide) rfl rfl rfl (Nat.le_of_ble_eq_true rfl) (by decide) (by decide) (fun r S' hr => ?_)
      obtain ⟨rfl, rfl⟩ := hr
      refine z_cVv F (K_setRatio hC.1 hJ hA hS ze (fun z => hv ((l0_iff v).mpr z))) dX9_entry_34 ml_X9_88 ok_X0_setRatio hA.1 (by decide) rfl rfl rfl (Nat.le_of_ble_eq_true rfl) (by decide) (by decide) (fun S' hS' => ?_)
      obtain ⟨V1, rfl, hK1, hF1⟩ := hS'
      refine z_iconst (v := nI 1) F dX9_entry_37 (by decide) ?_
      exact z_iret F dX9_entry_38 rfl ⟨rfl, V1, rfl, gC.ofF hF1, rCT.ent hR hC hp hk hK1 hF1⟩
    · have hv : v = 0 := (lg_cmp_eq _ _).mp c2
      rw [if_pos hv]
      refine z_bipush (v := (-2)) F dX9_entry_18 (by decide) ?_
      exact z_iret F dX9_entry_20 rfl (oP.same hC)
  · have h := zb_f c
    rw [if_neg h]
    refine z_iconst (v := (-1)) F dX9_entry_9 (by decide) ?_
    exact z_iret F dX9_entry_10 rfl (oP.same hC)
set_option maxRecDepth 100000 in
theorem c_put (i j a : Int32) (hR : xR Z G) (hC : rCT Z G V T X s) : zCt Γ mX9_put 4 103 0 0 [.ref G.x, .int i, .int j, .int a] (Z, V) (pI (oP Z G V (opPut G.n s i j a))) := by
  refine zCt.of [some (.ref G.x), some (.int i), some (.int j), some (.int a)] pn_X9_put rfl (Nat.le_of_ble_eq_true rfl) rfl (fun κ F => ?_)
  obtain ⟨b0, b1, b2, -⟩ := hR.1
  obtain ⟨hJ, hS, hA⟩ := hR.2.1
  have hn5 := hR.n5
  have hcs := hC.2.1.2.2.1
  have bad : ¬ (isE G.n i j && isN s a) = true → zX Γ κ (Z, V) 0 0 (zQ Γ κ (pI (oP Z G V (opPut G.n s i j a))) 0 0) 17 [some (.ref G.x), some (.int i), some (.int j), some (.int a)] [] := by
    intro h
    unfold opPut
    rw [if_neg h]
    refine z_iconst (v := (-1)) F dX9_put_17 (by decide) ?_
    exact z_iret F dX9_put_18 rfl (oP.same hC)
  refine z_aload_n F dX9_put_0 rfl ?_
  refine z_iload_n F dX9_put_1 rfl ?_
  refine z_iload_n F dX9_put_2 rfl ?_
  refine z_cVz F (c_isEntry i j hR hC) dX9_put_3 ml_X9_154 ok_X9_isEntry b0 (by decide) rfl rfl rfl (Nat.le_of_ble_eq_true rfl) (by decide) (by decide) (fun r S' hr => ?_)
  obtain ⟨rfl, rfl⟩ := hr
  refine z_if_eq (tgt := 17) F dX9_put_6 (by decide) (fun c => ?_) (fun c => ?_)
  · have h := (zb_eq0 _).mp c
    exact bad (by rw [h]; simp)
  · have h := zb_t c
    refine z_aload_n F dX9_put_9 rfl ?_
    refine z_iload_n F dX9_put_10 rfl ?_
    refine z_cVz F (c_isNumber a hR hC) dX9_put_11 ml_X9_96 ok_X9_isNumber b0 (by decide) rfl rfl rfl (Nat.le_of_ble_eq_true rfl) (by decide) (by decide) (fun r S' hr => ?_)
    obtain ⟨rfl, rfl⟩ := hr
    refine z_if_ne (tgt := 19) F dX9_put_14 (by decide) (fun c2 => ?_) (fun c2 => ?_)
    · have h2 := zb_t c2
      unfold opPut
      rw [if_pos (by rw [h, h2]; rfl)]
      obtain ⟨p, k, hp, hk, rfl, rfl, e1, e2⟩ := isE_t h hn5.2
      obtain ⟨ja, hja, rfl, eja⟩ := isN_t h2 hcs
      obtain ⟨pa1, pa2, pa3, pa4⟩ := hR.num (show ja < 40 by omega)
      rw [e1, e2, eja, ← hC.2.2.1 ja hja]
      have ze := hR.ent hp hk
      refine z_aload_n F dX9_put_19 rfl ?_
      refine z_iload_n F dX9_put_20 rfl ?_
      refine z_iload_n F dX9_put_21 rfl ?_
      refine z_cVr F (c_entryAt hR hC hp hk) dX9_put_22 ml_X9_158 ok_X9_entryAt b0 (by decide) rfl rfl rfl (Nat.le_of_ble_eq_true rfl) (by decide) (by decide) (fun r S' hr => ?_)
      obtain ⟨rfl, rfl⟩ := hr
      refine z_aload_n F dX9_put_25 rfl ?_
      refine z_getR F dX9_put_26 gr_X9_35 (by assumption) (by assumption) ?_
      refine z_iload_n F dX9_put_29 rfl ?_
      refine z_aald F dX9_put_30 (by assumption) pa1 pa2 ?_
      refine z_cVv F (K_copy hC.1 hJ hS ze pa3) dX9_put_31 ml_X9_162 ok_X3_copy ze (by decide) rfl rfl rfl (Nat.le_of_ble_eq_true rfl) (by decide) (by decide) (fun S' hS' => ?_)
      obtain ⟨V1, rfl, hK1, hF1⟩ := hS'
      refine z_iconst (v := nI 1) F dX9_put_34 (by decide) ?_
      exact z_iret F dX9_put_35 rfl ⟨rfl, V1, rfl, gC.ofF hF1, rCT.ent hR hC hp hk hK1 hF1⟩
    · have h2 := (zb_eq0 _).mp c2
      exact bad (by rw [h2, Bool.and_false]; decide)
set_option maxRecDepth 100000 in
theorem c_take (i j : Int32) (hR : xR Z G) (hC : rCT Z G V T X s) : zCt Γ mX9_take 5 124 0 0 [.ref G.x, .int i, .int j] (Z, V) (pI (oP Z G V (opTake G.n s i j))) := by
  refine zCt.of [some (.ref G.x), some (.int i), some (.int j)] pn_X9_take rfl (Nat.le_of_ble_eq_true rfl) rfl (fun κ F => ?_)
  obtain ⟨b0, b1, b2, -⟩ := hR.1
  have hn5 := hR.n5
  unfold opTake
  refine z_aload_n F dX9_take_0 rfl ?_
  refine z_iload_n F dX9_take_1 rfl ?_
  refine z_iload_n F dX9_take_2 rfl ?_
  refine z_cVz F (c_isEntry i j hR hC) dX9_take_3 ml_X9_154 ok_X9_isEntry b0 (by decide) rfl rfl rfl (Nat.le_of_ble_eq_true rfl) (by decide) (by decide) (fun r S' hr => ?_)
  obtain ⟨rfl, rfl⟩ := hr
  refine z_if_ne (tgt := 11) F dX9_take_6 (by decide) (fun c => ?_) (fun c => ?_)
  · have h := zb_t c
    rw [if_pos h]
    obtain ⟨p, k, hp, hk, rfl, rfl, e1, e2⟩ := isE_t h hn5.2
    rw [e1, e2, ← hC.2.2.2.1 p k hp hk]
    have ze := hR.ent hp hk
    refine z_aload_n F dX9_take_11 rfl ?_
    refine z_aload_n F dX9_take_12 rfl ?_
    refine z_iload_n F dX9_take_13 rfl ?_
    refine z_iload_n F dX9_take_14 rfl ?_
    refine z_cVr F (c_entryAt hR hC hp hk) dX9_take_15 ml_X9_158 ok_X9_entryAt b0 (by decide) rfl rfl rfl (Nat.le_of_ble_eq_true rfl) (by decide) (by decide) (fun r S' hr => ?_)
    obtain ⟨rfl, rfl⟩ := hr
    refine z_cVi F (c_keepCopy hR hC ze) dX9_take_18 ml_X9_166 ok_X9_keepCopy b0 (by decide) rfl rfl rfl (Nat.le_of_ble_eq_true rfl) (by decide) (by decide) (fun r S' hr => ?_)
    exact z_iret F dX9_take_21 rfl hr
  · have h := zb_f c
    rw [if_neg h]
    refine z_iconst (v := (-1)) F dX9_take_9 (by decide) ?_
    exact z_iret F dX9_take_10 rfl (oP.same hC)
set_option maxRecDepth 100000 in
theorem c_answers (hR : xR Z G) (hC : rCT Z G V T X s) : zCt Γ mX9_answers 0 0 0 0 [.ref G.x] (Z, V) (pI (oP Z G V (s, opAns G.n s))) := by
  refine zCt.of [some (.ref G.x)] pn_X9_answers rfl (Nat.le_of_ble_eq_true rfl) rfl (fun κ F => ?_)
  obtain ⟨b0, b1, b2, b3, b4, b5, b6, b7, b8⟩ := hR.1
  have hn5 := hR.n5
  have hs0 := hR.2.2.2.1.2.2.1.1.1
  obtain ⟨s1, s2, s3⟩ := hC.2.2.2.2.1
  have h0 := hC.2.1.1
  unfold opAns
  refine z_aload_n F dX9_answers_0 rfl ?_
  refine z_getR F dX9_answers_1 gr_X9_61 (by assumption) (by assumption) ?_
  refine z_getI F dX9_answers_4 gi_X9_187 (by assumption) ?_
  refine z_ti s2 ?_
  cases hv : tv s with
  | none =>
    refine z_if_ne (tgt := 13) F dX9_answers_7 (by decide) (fun c => ?_) (fun c => ?_)
    · exact absurd rfl c
    · refine z_bipush (v := (-5)) F dX9_answers_10 (by decide) ?_
      exact z_iret F dX9_answers_12 rfl (oP.same hC)
  | some v =>
    obtain ⟨q1, q2, q3, q4, q5⟩ := s3 v hv
    refine z_if_ne (tgt := 13) F dX9_answers_7 (by decide) (fun c => ?_) (fun c => ?_)
    · refine z_aload_n F dX9_answers_13 rfl ?_
      refine z_getR F dX9_answers_14 gr_X9_61 (by assumption) (by assumption) ?_
      refine z_getI F dX9_answers_17 gi_X9_190 (by assumption) ?_
      refine z_ti q1 ?_
      refine z_if_ne (tgt := 25) F dX9_answers_20 (by decide) (fun c2 => ?_) (fun c2 => ?_)
      · have h := zb_t c2
        simp only
        rw [if_pos h]
        refine z_aload_n F dX9_answers_25 rfl ?_
        refine z_getR F dX9_answers_26 gr_X9_61 (by assumption) (by assumption) ?_
        refine z_getI F dX9_answers_29 gi_X9_184 (by assumption) ?_
        refine z_ti q2 ?_
        refine z_aload_n F dX9_answers_32 rfl ?_
        refine z_getI F dX9_answers_33 gi_X9_21 (by assumption) ?_
        refine z_ti h0 ?_
        refine z_icmp_ne (tgt := 43) F dX9_answers_36 (by decide) (fun c3 => ?_) (fun c3 => ?_)
        · rw [if_neg (fun z => c3 (congrArg nI z))]
          refine z_iconst (v := nI 2) F dX9_answers_43 (by decide) ?_
          exact z_iret F dX9_answers_44 rfl (oP.same hC)
        · rw [if_pos ((nI_eq (by omega) (by omega)).mp c3)]
          refine z_iconst (v := nI 1) F dX9_answers_39 (by decide) ?_
          refine z_goto (tgt := 44) F dX9_answers_40 (by decide) ?_
          exact z_iret F dX9_answers_44 rfl (oP.same hC)
      · have h := zb_f c2
        simp only
        rw [if_neg h]
        refine z_iconst (v := nI 0) F dX9_answers_23 (by decide) ?_
        exact z_iret F dX9_answers_24 rfl (oP.same hC)
    · exact absurd c (show ¬ zb true = 0 by decide)
set_option maxRecDepth 100000 in
theorem c_pivot (k what : Int32) (hR : xR Z G) (hC : rCT Z G V T X s) : zCt Γ mX9_pivot 0 0 0 0 [.ref G.x, .int k, .int what] (Z, V) (pI (oP Z G V (s, opPiv s k what))) := by
  refine zCt.of [some (.ref G.x), some (.int k), some (.int what)] pn_X9_pivot rfl (Nat.le_of_ble_eq_true rfl) rfl (fun κ F => ?_)
  obtain ⟨b0, b1, b2, b3, b4, b5, b6, b7, b8⟩ := hR.1
  have hn5 := hR.n5
  obtain ⟨⟨hs0, e1, e2, e3, e4, -⟩, ⟨d1, d2, d3, d4, d5, d6, -⟩, -⟩ := hR.2.2.2.1.2.2.1
  obtain ⟨s1, s2, s3⟩ := hC.2.2.2.2.1
  unfold opPiv
  refine z_aload_n F dX9_pivot_0 rfl ?_
  refine z_getR F dX9_pivot_1 gr_X9_61 (by assumption) (by assumption) ?_
  refine z_getI F dX9_pivot_4 gi_X9_187 (by assumption) ?_
  refine z_ti s2 ?_
  cases hv : tv s with
  | none =>
    refine z_if_ne (tgt := 13) F dX9_pivot_7 (by decide) (fun c => ?_) (fun c => ?_)
    · exact absurd rfl c
    · refine z_bipush (v := (-5)) F dX9_pivot_10 (by decide) ?_
      exact z_iret F dX9_pivot_12 rfl (oP.same hC)
  | some v =>
    obtain ⟨q1, q2, q3, q4, q5⟩ := s3 v hv
    have bad : ¬ inI k v.2.1 = true → zX Γ κ (Z, V) 0 0 (zQ Γ κ (pI (oP Z G V (s, if inI k v.2.1 = true then (if what = 0 then nI (v.2.2.1 (an k)) else if what = 1 then nI (v.2.2.2.1 (an k)) else if what = 2 then nI (v.2.2.2.2.1 (an k)) else -1) else -1))) 0 0) 28 [some (.ref G.x), some (.int k), some (.int what)] [] := by
      intro h
      rw [if_neg h]
      refine z_iconst (v := (-1)) F dX9_pivot_28 (by decide) ?_
      exact z_iret F dX9_pivot_29 rfl (oP.same hC)
    simp only
    refine z_if_ne (tgt := 13) F dX9_pivot_7 (by decide) (fun c => ?_) (fun c => ?_)
    · refine z_iload_n F dX9_pivot_13 rfl ?_
      refine z_if_lt (tgt := 28) F dX9_pivot_14 (by decide) (fun c2 => ?_) (fun c2 => ?_)
      · exact bad (by rw [inI_f (Or.inl c2)]; decide)
      · refine z_iload_n F dX9_pivot_17 rfl ?_
        refine z_aload_n F dX9_pivot_18 rfl ?_
        refine z_getR F dX9_pivot_19 gr_X9_61 (by assumption) (by assumption) ?_
        refine z_getI F dX9_pivot_22 gi_X9_184 (by assumption) ?_
        refine z_ti q2 ?_
        refine z_icmp_lt (tgt := 30) F dX9_pivot_25 (by decide) (fun c3 => ?_) (fun c3 => ?_)
        · have hin : inI k v.2.1 = true := inI_of c2 (fun z => by have h1 := Int32.lt_iff_toInt_lt.mp c3; have h2 := Int32.le_iff_toInt_le.mp z; omega)
          rw [if_pos hin]
          obtain ⟨j, hj, rfl, ej⟩ := inI_t hin (by omega)
          rw [ej]
          obtain ⟨a1, a2, a3⟩ := q4 j hj
          have cl : (nI j).toNatClampNeg = j := ej
          have i1 : vp_in (nI j) (zn Z G.c1) := by rw [d2]; exact vp_in_nI (by omega) (by omega)
          have i2 : vp_in (nI j) (zn Z G.c2) := by rw [d4]; exact vp_in_nI (by omega) (by omega)
          have i3 : vp_in (nI j) (zn Z G.c3) := by rw [d6]; exact vp_in_nI (by omega) (by omega)
          rw [← cl] at a1 a2 a3
          rw [cl] at a1 a2 a3
          have a1' : vA V G.c1 (nI j).toNatClampNeg = nI (v.2.2.1 j) := by rw [cl]; exact a1
          have a2' : vA V G.c2 (nI j).toNatClampNeg = nI (v.2.2.2.1 j) := by rw [cl]; exact a2
          have a3' : vA V G.c3 (nI j).toNatClampNeg = nI (v.2.2.2.2.1 j) := by rw [cl]; exact a3
          refine z_iload_n F dX9_pivot_30 rfl ?_
          by_cases w0 : what = 0
          · subst w0
            refine z_tsIn (off := 25) (tgt := 56) F dX9_pivot_31 (by decide) (by decide) rfl (by decide) ?_
            rw [if_pos rfl]
            refine z_aload_n F dX9_pivot_56 rfl ?_
            refine z_getR F dX9_pivot_57 gr_X9_61 (by assumption) (by assumption) ?_
            refine z_getR F dX9_pivot_60 gr_X9_199 (by assumption) (by assumption) ?_
            refine z_iload_n F dX9_pivot_63 rfl ?_
            refine z_iald F dX9_pivot_64 (by assumption) i1 ?_
            refine z_ti a1' ?_
            exact z_iret F dX9_pivot_65 rfl (oP.same hC)
          · rw [if_neg w0]
            by_cases w1 : what = 1
            · subst w1
              refine z_tsIn (off := 35) (tgt := 66) F dX9_pivot_31 (by decide) (by decide) rfl (by decide) ?_
              rw [if_pos rfl]
              refine z_aload_n F dX9_pivot_66 rfl ?_
              refine z_getR F dX9_pivot_67 gr_X9_61 (by assumption) (by assumption) ?_
              refine z_getR F dX9_pivot_70 gr_X9_202 (by assumption) (by assumption) ?_
              refine z_iload_n F dX9_pivot_73 rfl ?_
              refine z_iald F dX9_pivot_74 (by assumption) i2 ?_
              refine z_ti a2' ?_
              exact z_iret F dX9_pivot_75 rfl (oP.same hC)
            · rw [if_neg w1]
              by_cases w2 : what = 2
              · subst w2
                refine z_tsIn (off := 45) (tgt := 76) F dX9_pivot_31 (by decide) (by decide) rfl (by decide) ?_
                rw [if_pos rfl]
                refine z_aload_n F dX9_pivot_76 rfl ?_
                refine z_getR F dX9_pivot_77 gr_X9_61 (by assumption) (by assumption) ?_
                refine z_getR F dX9_pivot_80 gr_X9_205 (by assumption) (by assumption) ?_
                refine z_iload_n F dX9_pivot_83 rfl ?_
                refine z_iald F dX9_pivot_84 (by assumption) i3 ?_
                refine z_ti a3' ?_
                exact z_iret F dX9_pivot_85 rfl (oP.same hC)
              · rw [if_neg w2]
                refine z_tsOut (tgt := 86) F dX9_pivot_31 (toI_out (n := 2) (by decide) (fun k hk => ?_)) (by decide) ?_
                · match k, hk with
                  | 0, _ => exact w0
                  | 1, _ => exact w1
                  | 2, _ => exact w2
                refine z_iconst (v := (-1)) F dX9_pivot_86 (by decide) ?_
                exact z_iret F dX9_pivot_87 rfl (oP.same hC)
        · exact bad (by rw [inI_f (Or.inr (Int32.le_iff_toInt_le.mpr (by have h1 := mt Int32.lt_iff_toInt_lt.mpr c3; omega)))]; decide)
    · exact absurd c (show ¬ zb true = 0 by decide)
set_option maxRecDepth 100000 in
theorem c_unknown (j : Int32) (hR : xR Z G) (hC : rCT Z G V T X s) : zCt Γ mX9_unknown 5 124 0 0 [.ref G.x, .int j] (Z, V) (pI (oP Z G V (opUnk G.n s j))) := by
  refine zCt.of [some (.ref G.x), some (.int j)] pn_X9_unknown rfl (Nat.le_of_ble_eq_true rfl) rfl (fun κ F => ?_)
  obtain ⟨b0, b1, b2, b3, b4, b5, b6, b7, b8⟩ := hR.1
  have hn5 := hR.n5
  have hRs := hR.2.2.2.1.2.2.1
  obtain ⟨⟨hs0, e1, e2, e3, e4, e5, e6, e7⟩, ⟨d1, d2, d3, d4, d5, d6, d7, d8, u1, u2, u3⟩, -⟩ := id hRs
  have hOs := hC.2.2.2.2.1
  obtain ⟨s1, s2, s3⟩ := id hOs
  have h0 := hC.2.1.1
  refine z_aload_n F dX9_unknown_0 rfl ?_
  refine z_getR F dX9_unknown_1 gr_X9_61 (by assumption) (by assumption) ?_
  refine z_cVz F (c_tellsUnknowns hRs hOs) dX9_unknown_4 ml_X9_193 ok_X6_tellsUnknowns hs0 (by decide) rfl rfl rfl (Nat.le_of_ble_eq_true rfl) (by decide) (by decide) (fun r S' hr => ?_)
  obtain ⟨rfl, rfl⟩ := hr
  unfold opUnk
  refine z_if_ne (tgt := 13) F dX9_unknown_7 (by decide) (fun c => ?_) (fun c => ?_)
  · have h := zb_t c
    rw [if_pos h]
    refine z_iload_n F dX9_unknown_13 rfl ?_
    refine z_if_lt (tgt := 25) F dX9_unknown_14 (by decide) (fun c2 => ?_) (fun c2 => ?_)
    · rw [if_neg (by rw [inI_f (Or.inl c2)]; decide)]
      refine z_iconst (v := (-1)) F dX9_unknown_25 (by decide) ?_
      exact z_iret F dX9_unknown_26 rfl (oP.same hC)
    · refine z_iload_n F dX9_unknown_17 rfl ?_
      refine z_aload_n F dX9_unknown_18 rfl ?_
      refine z_getI F dX9_unknown_19 gi_X9_21 (by assumption) ?_
      refine z_ti h0 ?_
      refine z_icmp_lt (tgt := 27) F dX9_unknown_22 (by decide) (fun c3 => ?_) (fun c3 => ?_)
      · have hin : inI j G.n = true := inI_of c2 (fun z => by have h1 := Int32.lt_iff_toInt_lt.mp c3; have h2 := Int32.le_iff_toInt_le.mp z; omega)
        rw [if_pos hin]
        obtain ⟨k, hk, rfl, ek⟩ := inI_t hin (by omega)
        rw [ek]
        cases hv : tv s with
        | none => rw [hv] at h; cases h
        | some v =>
          rw [hv] at h
          obtain ⟨q1, q2, q3, q4, q5⟩ := s3 v hv
          have iu : vp_in (nI k) (zn Z G.ua) := by rw [u2]; exact vp_in_nI hk (by omega)
          have ru : zA Z G.ua (nI k).toNatClampNeg = some (G.uk k) := by rw [show (nI k).toNatClampNeg = k from ek]; exact (u3 k hk).1
          simp only
          rw [← q5 h k hk]
          refine z_aload_n F dX9_unknown_27 rfl ?_
          refine z_aload_n F dX9_unknown_28 rfl ?_
          refine z_getR F dX9_unknown_29 gr_X9_61 (by assumption) (by assumption) ?_
          refine z_getR F dX9_unknown_32 gr_X9_196 (by assumption) (by assumption) ?_
          refine z_iload_n F dX9_unknown_35 rfl ?_
          refine z_aald F dX9_unknown_36 (by assumption) iu ru ?_
          refine z_cVi F (c_keepCopy hR hC (u3 k hk).2) dX9_unknown_37 ml_X9_166 ok_X9_keepCopy b0 (by decide) rfl rfl rfl (Nat.le_of_ble_eq_true rfl) (by decide) (by decide) (fun r S' hr => ?_)
          exact z_iret F dX9_unknown_40 rfl hr
      · rw [if_neg (by rw [inI_f (Or.inr (Int32.le_iff_toInt_le.mpr (by have h1 := mt Int32.lt_iff_toInt_lt.mpr c3; omega)))]; decide)]
        refine z_iconst (v := (-1)) F dX9_unknown_25 (by decide) ?_
        exact z_iret F dX9_unknown_26 rfl (oP.same hC)
  · have h := zb_f c
    rw [if_neg h]
    refine z_bipush (v := (-5)) F dX9_unknown_10 (by decide) ?_
    exact z_iret F dX9_unknown_12 rfl (oP.same hC)
end ROWS3
