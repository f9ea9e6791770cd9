/-! ===== Whole: shifts, rests ===== -/
set_option maxRecDepth 100000 in
/-- shiftLeft(s), by 0 to 31 bits -/
theorem c_shiftLeft {Γ : Gm} {Z : Hz} {V : Hv} {o g x s : Nat} (ho : wh Z o g) (hv : vv V o g x) (hs : s < 32) (hxs : x * 2 ^ s < 4294967296 ^ 16) : zCt Γ mX8_shiftLeft 0 0 0 0 [.ref o, .int (nI s)] (Z, V) (pV (rW Z V o g (x * 2 ^ s))) := by
  refine zCt.of [some (.ref o), some (.int (nI s)), none, none, none] pn_X8_shiftLeft rfl (Nat.le_of_ble_eq_true rfl) rfl (fun κ F => ?_)
  obtain ⟨ho7, hog, hg, hn16⟩ := id ho
  have hl := hv.len
  obtain ⟨e, he⟩ : ∃ e, e = nl x := ⟨_, rfl⟩
  have he16 : e ≤ 16 := by omega
  have hx : vl (vA V g) e = x := by
    rw [← vl_top he16 (fun i h1 h2 => hv.hi i (by omega) h2)]; exact hv.1
  have hI : ∀ f, vI (sA V g f) 7 1 o = nI e := fun f => by rw [he]; exact hv.2
  have hp0 : 0 < 2 ^ s := Nat.pow_pos (by decide)
  have hp1 : 2 ^ s ≤ 2147483648 := by
    have := Nat.pow_le_pow_right (n := 2) (by decide) (show s ≤ 31 by omega)
    omega
  generalize hps : 2 ^ s = p at hxs hp0 hp1 ⊢
  have loop : ∀ (d i : Nat) (f : Nat → Int32) (c : Nat), i + d = e → vl f i + c * 4294967296 ^ i = vl (vA V g) i * p → (∀ j, i ≤ j → f j = vA V g j) → c < p → zX Γ κ (Z, sA V g f) 0 0 (zQ Γ κ (pV (rW Z V o g (x * p))) 0 0) 5 [some (.ref o), some (.int (nI s)), some (.long (lN c)), none, some (.int (nI i))] [] := by
    intro d
    induction d with
    | zero =>
      intro i f c hi hs hf hc
      have hie : i = e := by omega
      subst hie
      rw [hx] at hs
      have hfl := vl_lt f i
      have hz : ∀ j, i ≤ j → j < 16 → f j = 0 := fun j h1 h2 => by rw [hf j h1]; exact hv.hi j (by omega) h2
      have hA : vA (sA V g f) g = f := vA_sA_self _ _ _
      refine z_iload F dX8_shiftLeft_5 rfl ?_
      refine z_aload_n F dX8_shiftLeft_7 rfl ?_
      refine z_getI F dX8_shiftLeft_8 gi_X8_19 (by assumption) ?_
      refine z_ti (hI f) ?_
      refine z_icmp_ge (tgt := 51) F dX8_shiftLeft_11 (by decide) (fun c1 => ?_) (fun c1 => ?_)
      · refine z_lload_n F dX8_shiftLeft_51 rfl ?_
        refine z_lconst (v := lN 0) F dX8_shiftLeft_52 (by decide) ?_
        refine z_lcmp F dX8_shiftLeft_53 ?_
        have hcmp : lg_cmp (lN c) (lN 0) = 0 ↔ c = 0 := by
          rw [lg_cmp_eq]
          exact pk_lEQ (by omega) (by decide)
        refine z_if_eq (tgt := 87) F dX8_shiftLeft_54 (by decide) (fun c2 => ?_) (fun c2 => ?_)
        · have hc0 := hcmp.mp c2
          subst hc0
          have hsum : vl f i = x * p := by omega
          have hnl : nl (x * p) = i := nl_eq (by rw [← hsum]; exact hfl) (by
            rcases Nat.eq_zero_or_pos i with h0 | h0
            · exact Or.inl h0
            · right
              have h1 := lt_nl.mp (show i - 1 < nl x by omega)
              exact Nat.le_trans h1 (Nat.le_mul_of_pos_right x hp0))
          exact z_vret F dX8_shiftLeft_87 rfl ⟨_, rfl, oW.mkA V o g _, by rw [hA, vl_top he16 hz, hsum], by rw [hI, hnl]⟩
        · have hc0 := mt hcmp.mpr c2
          have h16 : i < 16 := by
            apply Decidable.byContradiction
            intro z
            have : i = 16 := by omega
            rw [this] at hs
            have : 1 * 4294967296 ^ 16 ≤ c * 4294967296 ^ 16 := Nat.mul_le_mul_right _ (by omega)
            omega
          refine z_aload_n F dX8_shiftLeft_57 rfl ?_
          refine z_getI F dX8_shiftLeft_58 gi_X8_19 (by assumption) ?_
          refine z_ti (hI f) ?_
          refine z_bipush (v := nI 16) F dX8_shiftLeft_61 (by decide) ?_
          refine z_icmp_ge (tgt := 87) F dX8_shiftLeft_63 (by decide) (fun c3 => ?_) (fun c3 => ?_)
          · exact absurd ((nI_leI (by omega) (by omega)).mp c3) (by omega)
          · have hlt : x * p < 4294967296 ^ (i + 1) := by
              rw [← hs, Nat.pow_succ]
              have : c * 4294967296 ^ i ≤ 4294967295 * 4294967296 ^ i := Nat.mul_le_mul_right _ (by omega)
              omega
            have hnl : nl (x * p) = i + 1 := nl_eq hlt (Or.inr (by
              simp only [Nat.add_sub_cancel]
              have : 1 * 4294967296 ^ i ≤ c * 4294967296 ^ i := Nat.mul_le_mul_right _ (by omega)
              omega))
            refine z_aload_n F dX8_shiftLeft_66 rfl ?_
            refine z_getR F dX8_shiftLeft_67 gr_X8_9 (by assumption) (by assumption) ?_
            refine z_aload_n F dX8_shiftLeft_70 rfl ?_
            refine z_getI F dX8_shiftLeft_71 gi_X8_19 (by assumption) ?_
            refine z_ti (hI f) ?_
            refine z_lload_n F dX8_shiftLeft_74 rfl ?_
            refine z_l2i F dX8_shiftLeft_75 ?_
            refine z_ti (lN_i c) ?_
            refine z_iast F dX8_shiftLeft_76 (by assumption) (in16 ho h16) ?_
            refine z_V (show _ = sA V g (upd f i (nI c)) by rw [vA_sA_self, sA_sA, cl16 h16]) ?_
            refine z_aload_n F dX8_shiftLeft_77 rfl ?_
            refine z_dup F dX8_shiftLeft_78 rfl ?_
            refine z_getI F dX8_shiftLeft_79 gi_X8_19 (by assumption) ?_
            refine z_ti (hI _) ?_
            refine z_iconst (v := nI 1) F dX8_shiftLeft_82 (by decide) ?_
            refine z_iadd F dX8_shiftLeft_83 ?_
            refine z_ti (nI_add i 1) ?_
            refine z_putI F dX8_shiftLeft_84 pi_X8_19 (zf_7_1 _) (by assumption) ?_
            exact z_vret F dX8_shiftLeft_87 rfl ⟨_, rfl, oW.mk V o g _ _, by
              show vl (vA (sA V g _) g) 16 = _
              rw [vA_sA_self, vl_top (m := i + 1) (by omega) (fun j h1 h2 => by rw [pk_un (by omega)]; exact hz j (by omega) h2), vl_succ, vl_up_ge (Nat.le_refl _), pk_us, uu_nI, Nat.mod_eq_of_lt (by omega)]
              omega, by rw [vI_sI_self, hnl]⟩
      · exact absurd (nI_le (by omega) (by omega)) c1
    | succ d ih =>
      intro i f c hi hs9 hf hc
      have hiL : i < 16 := by omega
      have hcl := cl16 hiL
      have r1 : vA (sA V g f) g (nI i).toNatClampNeg = vA V g i := by rw [vA_sA_self, hcl]; exact hf i (Nat.le_refl _)
      have b1 := uu_lt (vA V g i)
      have b2 : uu (vA V g i) * p ≤ 4294967295 * p := Nat.mul_le_mul_right _ (by omega)
      have hsh : lN (uu (vA V g i)) <<< ((nI s).toInt64 &&& 63) = lN (uu (vA V g i) * p) := by rw [lN_shlk _ (by omega), hps]
      have hor : lN c ||| lN (uu (vA V g i) * p) = lN (c + uu (vA V g i) * p) := g_or' hps hc (by omega)
      refine z_iload F dX8_shiftLeft_5 rfl ?_
      refine z_aload_n F dX8_shiftLeft_7 rfl ?_
      refine z_getI F dX8_shiftLeft_8 gi_X8_19 (by assumption) ?_
      refine z_ti (hI f) ?_
      refine z_icmp_ge (tgt := 51) F dX8_shiftLeft_11 (by decide) (fun c1 => ?_) (fun c1 => ?_)
      · exact absurd ((nI_leI (by omega) (by omega)).mp c1) (by omega)
      · refine z_lload_n F dX8_shiftLeft_14 rfl ?_
        refine z_aload_n F dX8_shiftLeft_15 rfl ?_
        refine z_getR F dX8_shiftLeft_16 gr_X8_9 (by assumption) (by assumption) ?_
        refine z_iload F dX8_shiftLeft_19 rfl ?_
        refine z_iald F dX8_shiftLeft_21 (by assumption) (in16 ho hiL) ?_
        refine z_ti r1 ?_
        refine z_i2l F dX8_shiftLeft_22 ?_
        refine z_ldc2 (v := 4294967295) F dX8_shiftLeft_23 cn_X8_23 ?_
        refine z_land F dX8_shiftLeft_26 ?_
        refine z_tl (lowU _) ?_
        refine z_iload_n F dX8_shiftLeft_27 rfl ?_
        refine z_lshl F dX8_shiftLeft_28 ?_
        refine z_tl hsh ?_
        refine z_lor F dX8_shiftLeft_29 ?_
        refine z_tl hor ?_
        refine z_lstore_n_2 F dX8_shiftLeft_30 rfl ?_
        refine z_aload_n F dX8_shiftLeft_31 rfl ?_
        refine z_getR F dX8_shiftLeft_32 gr_X8_9 (by assumption) (by assumption) ?_
        refine z_iload F dX8_shiftLeft_35 rfl ?_
        refine z_lload_n F dX8_shiftLeft_37 rfl ?_
        refine z_l2i F dX8_shiftLeft_38 ?_
        refine z_ti (lN_i _) ?_
        refine z_iast F dX8_shiftLeft_39 (by assumption) (in16 ho hiL) ?_
        refine z_V (show _ = sA V g (upd f i (nI (c + uu (vA V g i) * p))) by rw [vA_sA_self, sA_sA, hcl]) ?_
        refine z_lload_n F dX8_shiftLeft_40 rfl ?_
        refine z_bipush (v := nI 32) F dX8_shiftLeft_41 (by decide) ?_
        refine z_lushr F dX8_shiftLeft_43 ?_
        refine z_tl (lN_shr32 (by omega)) ?_
        refine z_lstore_n_2 F dX8_shiftLeft_44 rfl ?_
        refine z_iinc_4 F dX8_shiftLeft_45 rfl ?_
        refine z_goto (tgt := 5) F dX8_shiftLeft_48 (by decide) ?_
        rw [show nI i + Int32.ofInt 1 = nI (i + 1) from nI_1 i]
        refine ih (i + 1) _ _ (by omega) ?_ (fun j hj => by rw [pk_un (by omega)]; exact hf j (by omega)) ?_
        · rw [vl_succ, vl_up_ge (Nat.le_refl _), pk_us, uu_nI, vl_succ, Nat.pow_succ, Nat.add_mul]
          have h1 := digsplit (c + uu (vA V g i) * p) (4294967296 ^ i)
          rw [Nat.add_mul] at h1
          have h2 : uu (vA V g i) * 4294967296 ^ i * p = uu (vA V g i) * p * 4294967296 ^ i := Nat.mul_right_comm _ _ _
          omega
        · rw [Nat.div_lt_iff_lt_mul (by decide)]
          have : (p - 1 + 1) * 4294967296 = p * 4294967296 := by rw [Nat.sub_add_cancel hp0]
          omega
  refine z_lconst (v := lN 0) F dX8_shiftLeft_0 (by decide) ?_
  refine z_lstore_n_2 F dX8_shiftLeft_1 rfl ?_
  refine z_iconst (v := nI 0) F dX8_shiftLeft_2 (by decide) ?_
  refine z_istore_4 F dX8_shiftLeft_3 rfl ?_
  refine z_V (sA_id V g).symm ?_
  exact loop e 0 (vA V g) 0 (by omega) (by simp [vl]) (fun j _ => rfl) hp0
set_option maxRecDepth 100000 in
/-- shiftRight(s), by 0 to 31 bits; the length stays, at the cells -/
theorem c_shiftRight {Γ : Gm} {Z : Hz} {V : Hv} {o g x s L : Nat} (ho : wh Z o g) (hx : vl (vA V g) 16 = x) (hL : vI V 7 1 o = nI L) (hL16 : L ≤ 16) (hxL : x < 4294967296 ^ L) (hs : s < 32) : zCt Γ mX8_shiftRight 0 0 0 0 [.ref o, .int (nI s)] (Z, V) (pV (fun S' => ∃ f, S' = (Z, sA V g f) ∧ vl f 16 = x / 2 ^ s)) := by
  refine zCt.of [some (.ref o), some (.int (nI s)), none, none, none, none, none] pn_X8_shiftRight rfl (Nat.le_of_ble_eq_true rfl) rfl (fun κ F => ?_)
  obtain ⟨ho7, hog, hg, hn16⟩ := id ho
  have hlimb : ∀ i, i < 16 → uu (vA V g i) = x / 4294967296 ^ i % 4294967296 := fun i hi => by rw [← hx]; exact vl_digit _ hi
  have loop : ∀ (k : Nat) (f : Nat → Int32) (l5 : Option Value), k ≤ L → (∀ j, k ≤ j → j < 16 → uu (f j) = x / 2 ^ s / 4294967296 ^ j % 4294967296) → (∀ j, j < k → f j = vA V g j) → zX Γ κ (Z, sA V g f) 0 0 (zQ Γ κ (pV (fun S' => ∃ f, S' = (Z, sA V g f) ∧ vl f 16 = x / 2 ^ s)) 0 0) 10 [some (.ref o), some (.int (nI s)), some (.long (lN (x / 4294967296 ^ k % 4294967296))), none, some (.int (nI k - nI 1)), l5, none] [] := by
    intro k
    induction k with
    | zero =>
      intro f l5 hk h1 h2
      refine z_iload F dX8_shiftRight_10 rfl ?_
      refine z_if_lt (tgt := 55) F dX8_shiftRight_12 (by decide) (fun c => ?_) (fun c => ?_)
      · have hlt : x / 2 ^ s < 4294967296 ^ 16 := Nat.lt_of_le_of_lt (Nat.div_le_self _ _) (Nat.lt_of_lt_of_le hxL (Nat.pow_le_pow_right (by decide) hL16))
        have hvl : ∀ n, n ≤ 16 → vl f n = x / 2 ^ s % 4294967296 ^ n := by
          intro n
          induction n with
          | zero => intro _; simp [vl, Nat.mod_one]
          | succ n ihn =>
            intro hn
            rw [vl_succ, ihn (by omega), h1 n (by omega) (by omega), mod_div_pow]
        exact z_vret F dX8_shiftRight_55 rfl ⟨f, rfl, by rw [hvl 16 (Nat.le_refl _), Nat.mod_eq_of_lt hlt]⟩
      · exact absurd nI_0m1 c
    | succ k ih =>
      intro f l5 hk h1 h2
      have hkL : k < 16 := by omega
      have hcl := cl16 hkL
      have r1 : vA (sA V g f) g (nI k).toNatClampNeg = vA V g k := by rw [vA_sA_self, hcl]; exact h2 k (by omega)
      have d1 : x / 4294967296 ^ (k + 1) % 4294967296 < 4294967296 := Nat.mod_lt _ (by decide)
      have d2 : x / 4294967296 ^ k % 4294967296 < 4294967296 := Nat.mod_lt _ (by decide)
      have r2 : (vA V g k).toInt64 &&& 4294967295 = lN (x / 4294967296 ^ k % 4294967296) := by rw [low32, hlimb k hkL]
      rw [nI_km1]
      refine z_iload F dX8_shiftRight_10 rfl ?_
      refine z_if_lt (tgt := 55) F dX8_shiftRight_12 (by decide) (fun c => ?_) (fun c => ?_)
      · exact absurd c (nI_pos (by omega))
      · refine z_aload_n F dX8_shiftRight_15 rfl ?_
        refine z_getR F dX8_shiftRight_16 gr_X8_9 (by assumption) (by assumption) ?_
        refine z_iload F dX8_shiftRight_19 rfl ?_
        refine z_iald F dX8_shiftRight_21 (by assumption) (in16 ho hkL) ?_
        refine z_ti r1 ?_
        refine z_i2l F dX8_shiftRight_22 ?_
        refine z_ldc2 (v := 4294967295) F dX8_shiftRight_23 cn_X8_23 ?_
        refine z_land F dX8_shiftRight_26 ?_
        refine z_tl r2 ?_
        refine z_lstore_5 F dX8_shiftRight_27 rfl ?_
        refine z_aload_n F dX8_shiftRight_29 rfl ?_
        refine z_getR F dX8_shiftRight_30 gr_X8_9 (by assumption) (by assumption) ?_
        refine z_iload F dX8_shiftRight_33 rfl ?_
        refine z_lload_n F dX8_shiftRight_35 rfl ?_
        refine z_bipush (v := nI 32) F dX8_shiftRight_36 (by decide) ?_
        refine z_lshl F dX8_shiftRight_38 ?_
        refine z_tl (lN_shl32 _) ?_
        refine z_lload F dX8_shiftRight_39 rfl ?_
        refine z_lor F dX8_shiftRight_41 ?_
        refine z_tl (lN_orHi d2 (by omega)) ?_
        refine z_iload_n F dX8_shiftRight_42 rfl ?_
        refine z_lushr F dX8_shiftRight_43 ?_
        refine z_tl (lN_shrk (by omega) (by omega)) ?_
        refine z_l2i F dX8_shiftRight_44 ?_
        refine z_ti (lN_i _) ?_
        refine z_iast F dX8_shiftRight_45 (by assumption) (in16 ho hkL) ?_
        refine z_V (show _ = sA V g (upd f k (nI ((x / 4294967296 ^ (k + 1) % 4294967296 * 4294967296 + x / 4294967296 ^ k % 4294967296) / 2 ^ s))) by rw [vA_sA_self, sA_sA, hcl]) ?_
        refine z_lload F dX8_shiftRight_46 rfl ?_
        refine z_lstore_n_2 F dX8_shiftRight_48 rfl ?_
        refine z_iinc_4 F dX8_shiftRight_49 rfl ?_
        refine z_goto (tgt := 10) F dX8_shiftRight_52 (by decide) ?_
        rw [nI_m1]
        refine ih _ _ (by omega) (fun j h3 h4 => ?_) (fun j h3 => by rw [pk_un (by omega)]; exact h2 j (by omega))
        by_cases hj : j = k
        · subst hj
          rw [pk_us, uu_nI]
          exact shr_step hs
        · rw [pk_un hj]
          exact h1 j (by omega) h4
  refine z_lconst (v := lN 0) F dX8_shiftRight_0 (by decide) ?_
  refine z_lstore_n_2 F dX8_shiftRight_1 rfl ?_
  refine z_aload_n F dX8_shiftRight_2 rfl ?_
  refine z_getI F dX8_shiftRight_3 gi_X8_19 (by assumption) ?_
  refine z_ti hL ?_
  refine z_iconst (v := nI 1) F dX8_shiftRight_6 (by decide) ?_
  refine z_isub F dX8_shiftRight_7 ?_
  refine z_istore_4 F dX8_shiftRight_8 rfl ?_
  refine z_V (sA_id V g).symm ?_
  have e0 : lN 0 = lN (x / 4294967296 ^ L % 4294967296) := by rw [Nat.div_eq_of_lt hxL]
  rw [e0]
  refine loop L (vA V g) _ (Nat.le_refl _) (fun j h1 h2 => ?_) (fun j _ => rfl)
  rw [hlimb j h2, Nat.div_eq_of_lt (Nat.lt_of_lt_of_le hxL (Nat.pow_le_pow_right (by decide) h1))]
  rw [Nat.div_eq_of_lt (a := x / 2 ^ s) (Nat.lt_of_le_of_lt (Nat.div_le_self _ _) (Nat.lt_of_lt_of_le hxL (Nat.pow_le_pow_right (by decide) h1)))]
set_option maxRecDepth 100000 in
/-- restBy(p), p above 0 -/
theorem c_restBy {Γ : Gm} {Z : Hz} {V : Hv} {o g x p : Nat} (ho : wh Z o g) (hv : vv V o g x) (hp0 : 0 < p) (hp : p < 2147483648) : zCt Γ mX8_restBy 0 0 0 0 [.ref o, .int (nI p)] (Z, V) (pI (q0 Z V (nI (x % p)))) := by
  refine zCt.of [some (.ref o), some (.int (nI p)), none, none, none] pn_X8_restBy rfl (Nat.le_of_ble_eq_true rfl) rfl (fun κ F => ?_)
  obtain ⟨ho7, hog, hg, hn16⟩ := id ho
  have hl := hv.len
  have hp64 : (nI p).toInt64 = lN p := nI_l hp
  have hpne : ¬ lN p = 0 := fun z => by
    have := (pk_lEQ (a := p) (b := 0) (by omega) (by decide)).mp z
    omega
  have loop : ∀ (k : Nat), k ≤ 16 → zX Γ κ (Z, V) 0 0 (zQ Γ κ (pI (q0 Z V (nI (x % p)))) 0 0) 10 [some (.ref o), some (.int (nI p)), some (.long (lN (x / 4294967296 ^ k % p))), none, some (.int (nI k - nI 1))] [] := by
    intro k
    induction k with
    | zero =>
      intro _
      refine z_iload F dX8_restBy_10 rfl ?_
      refine z_if_lt (tgt := 46) F dX8_restBy_12 (by decide) (fun c => ?_) (fun c => ?_)
      · refine z_lload_n F dX8_restBy_46 rfl ?_
        refine z_l2i F dX8_restBy_47 ?_
        refine z_ti (lN_i _) ?_
        exact z_iret F dX8_restBy_48 rfl ⟨by simp, rfl⟩
      · exact absurd nI_0m1 c
    | succ k ih =>
      intro hk
      have hkL : k < 16 := by omega
      have hcl := cl16 hkL
      have d1 : x / 4294967296 ^ (k + 1) % p < p := Nat.mod_lt _ hp0
      have d2 : x / 4294967296 ^ k % 4294967296 < 4294967296 := Nat.mod_lt _ (by decide)
      have r1 : vA V g (nI k).toNatClampNeg = nI (x / 4294967296 ^ k % 4294967296) := by rw [hcl]; exact hv.limb hkL
      rw [nI_km1]
      refine z_iload F dX8_restBy_10 rfl ?_
      refine z_if_lt (tgt := 46) F dX8_restBy_12 (by decide) (fun c => ?_) (fun c => ?_)
      · exact absurd c (nI_pos (by omega))
      · refine z_iload_n F dX8_restBy_15 rfl ?_
        refine z_if_le (tgt := 46) F dX8_restBy_16 (by decide) (fun c2 => ?_) (fun c2 => ?_)
        · exact absurd ((nI_le0 (by omega)).mp c2) (by omega)
        · refine z_lload_n F dX8_restBy_19 rfl ?_
          refine z_bipush (v := nI 32) F dX8_restBy_20 (by decide) ?_
          refine z_lshl F dX8_restBy_22 ?_
          refine z_tl (lN_shl32 _) ?_
          refine z_aload_n F dX8_restBy_23 rfl ?_
          refine z_getR F dX8_restBy_24 gr_X8_9 (by assumption) (by assumption) ?_
          refine z_iload F dX8_restBy_27 rfl ?_
          refine z_iald F dX8_restBy_29 (by assumption) (in16 ho hkL) ?_
          refine z_ti r1 ?_
          refine z_i2l F dX8_restBy_30 ?_
          refine z_ldc2 (v := 4294967295) F dX8_restBy_31 cn_X8_23 ?_
          refine z_land F dX8_restBy_34 ?_
          refine z_tl (lowN d2) ?_
          refine z_lor F dX8_restBy_35 ?_
          refine z_tl (lN_orHi d2 (by omega)) ?_
          refine z_iload_n F dX8_restBy_36 rfl ?_
          refine z_i2l F dX8_restBy_37 ?_
          refine z_tl hp64 ?_
          refine z_lrem F dX8_restBy_38 hpne ?_
          refine z_tl (pk_lRem (by omega) hp0 (by omega)) ?_
          refine z_tl (by rw [rest_step]) ?_
          refine z_lstore_n_2 F dX8_restBy_39 rfl ?_
          refine z_iinc_4 F dX8_restBy_40 rfl ?_
          refine z_goto (tgt := 10) F dX8_restBy_43 (by decide) ?_
          rw [nI_m1]
          exact ih (by omega)
  refine z_lconst (v := lN 0) F dX8_restBy_0 (by decide) ?_
  refine z_lstore_n_2 F dX8_restBy_1 rfl ?_
  refine z_aload_n F dX8_restBy_2 rfl ?_
  refine z_getI F dX8_restBy_3 gi_X8_19 (by assumption) ?_
  refine z_ti hv.2 ?_
  refine z_iconst (v := nI 1) F dX8_restBy_6 (by decide) ?_
  refine z_isub F dX8_restBy_7 ?_
  refine z_istore_4 F dX8_restBy_8 rfl ?_
  have e0 : lN 0 = lN (x / 4294967296 ^ nl x % p) := by rw [Nat.div_eq_of_lt (lt_pow_nl x), Nat.zero_mod]
  rw [e0]
  exact loop (nl x) hl
set_option maxRecDepth 100000 in
/-- shrinkBy(d), d above 0: the quotient stays, the rest is answered -/
theorem c_shrinkBy {Γ : Gm} {Z : Hz} {V : Hv} {o g x p : Nat} (ho : wh Z o g) (hv : vv V o g x) (hp0 : 0 < p) (hp : p < 2147483648) : zCt Γ mX8_shrinkBy 1 20 0 0 [.ref o, .int (nI p)] (Z, V) (pI (fun r S' => r = nI (x % p) ∧ rW Z V o g (x / p) S')) := by
  refine zCt.of [some (.ref o), some (.int (nI p)), none, none, none] pn_X8_shrinkBy rfl (Nat.le_of_ble_eq_true rfl) rfl (fun κ F => ?_)
  obtain ⟨ho7, hog, hg, hn16⟩ := id ho
  have hl := hv.len
  have hp64 : (nI p).toInt64 = lN p := nI_l hp
  have hI : ∀ f, vI (sA V g f) 7 1 o = nI (nl x) := fun f => hv.2
  have hpne : ¬ lN p = 0 := fun z => by
    have := (pk_lEQ (a := p) (b := 0) (by omega) (by decide)).mp z
    omega
  have hlimb : ∀ i, i < 16 → uu (vA V g i) = x / 4294967296 ^ i % 4294967296 := fun i hi => by rw [← hv.1]; exact vl_digit _ hi
  have loop : ∀ (k : Nat) (f : Nat → Int32), k ≤ nl x → (∀ j, k ≤ j → j < 16 → uu (f j) = x / p / 4294967296 ^ j % 4294967296) → (∀ j, j < k → f j = vA V g j) → zX Γ κ (Z, sA V g f) 0 0 (zQ Γ κ (pI (fun r S' => r = nI (x % p) ∧ rW Z V o g (x / p) S')) 0 0) 10 [some (.ref o), some (.int (nI p)), some (.long (lN (x / 4294967296 ^ k % p))), none, some (.int (nI k - nI 1))] [] := by
    intro k
    induction k with
    | zero =>
      intro f _ h1 h2
      have hlt : x / p < 4294967296 ^ nl x := Nat.lt_of_le_of_lt (Nat.div_le_self _ _) (lt_pow_nl x)
      have hvl : ∀ n, n ≤ 16 → vl f n = x / p % 4294967296 ^ n := by
        intro n
        induction n with
        | zero => intro _; simp [vl, Nat.mod_one]
        | succ n ihn =>
          intro hn
          rw [vl_succ, ihn (by omega), h1 n (by omega) (by omega), mod_div_pow]
      have hA : vl (vA (sA V g f) g) 16 = x / p := by
        rw [vA_sA_self, hvl 16 (Nat.le_refl _), Nat.mod_eq_of_lt (Nat.lt_of_lt_of_le hlt (Nat.pow_le_pow_right (by decide) hl))]
      refine z_iload F dX8_shrinkBy_10 rfl ?_
      refine z_if_lt (tgt := 60) F dX8_shrinkBy_12 (by decide) (fun c => ?_) (fun c => ?_)
      · refine z_aload_n F dX8_shrinkBy_60 rfl ?_
        refine z_cVv F (c_trim (L := nl x) ho hA (hI f) hl hlt) dX8_shrinkBy_61 ml_X8_41 ok_X8_trim ho7 (by decide) rfl rfl rfl (Nat.le_of_ble_eq_true rfl) (by decide) (by decide) (fun S' hS' => ?_)
        subst hS'
        refine z_lload_n F dX8_shrinkBy_64 rfl ?_
        refine z_l2i F dX8_shrinkBy_65 ?_
        refine z_ti (lN_i _) ?_
        exact z_iret F dX8_shrinkBy_66 rfl ⟨by simp, _, rfl, oW.mk V o g _ _, hA, by rw [vI_sI_self]⟩
      · exact absurd nI_0m1 c
    | succ k ih =>
      intro f hk h1 h2
      have hkL : k < 16 := by omega
      have hcl := cl16 hkL
      have d1 : x / 4294967296 ^ (k + 1) % p < p := Nat.mod_lt _ hp0
      have d2 : x / 4294967296 ^ k % 4294967296 < 4294967296 := Nat.mod_lt _ (by decide)
      have r1 : vA (sA V g f) g (nI k).toNatClampNeg = nI (x / 4294967296 ^ k % 4294967296) := by rw [vA_sA_self, hcl, h2 k (by omega)]; exact hv.limb hkL
      rw [nI_km1]
      refine z_iload F dX8_shrinkBy_10 rfl ?_
      refine z_if_lt (tgt := 60) F dX8_shrinkBy_12 (by decide) (fun c => ?_) (fun c => ?_)
      · exact absurd c (nI_pos (by omega))
      · refine z_iload_n F dX8_shrinkBy_15 rfl ?_
        refine z_if_le (tgt := 60) F dX8_shrinkBy_16 (by decide) (fun c2 => ?_) (fun c2 => ?_)
        · exact absurd ((nI_le0 (by omega)).mp c2) (by omega)
        · refine z_lload_n F dX8_shrinkBy_19 rfl ?_
          refine z_bipush (v := nI 32) F dX8_shrinkBy_20 (by decide) ?_
          refine z_lshl F dX8_shrinkBy_22 ?_
          refine z_tl (lN_shl32 _) ?_
          refine z_aload_n F dX8_shrinkBy_23 rfl ?_
          refine z_getR F dX8_shrinkBy_24 gr_X8_9 (by assumption) (by assumption) ?_
          refine z_iload F dX8_shrinkBy_27 rfl ?_
          refine z_iald F dX8_shrinkBy_29 (by assumption) (in16 ho hkL) ?_
          refine z_ti r1 ?_
          refine z_i2l F dX8_shrinkBy_30 ?_
          refine z_ldc2 (v := 4294967295) F dX8_shrinkBy_31 cn_X8_23 ?_
          refine z_land F dX8_shrinkBy_34 ?_
          refine z_tl (lowN d2) ?_
          refine z_lor F dX8_shrinkBy_35 ?_
          refine z_tl (lN_orHi d2 (by omega)) ?_
          refine z_lstore_n_2 F dX8_shrinkBy_36 rfl ?_
          refine z_aload_n F dX8_shrinkBy_37 rfl ?_
          refine z_getR F dX8_shrinkBy_38 gr_X8_9 (by assumption) (by assumption) ?_
          refine z_iload F dX8_shrinkBy_41 rfl ?_
          refine z_lload_n F dX8_shrinkBy_43 rfl ?_
          refine z_iload_n F dX8_shrinkBy_44 rfl ?_
          refine z_i2l F dX8_shrinkBy_45 ?_
          refine z_tl hp64 ?_
          refine z_ldiv F dX8_shrinkBy_46 hpne ?_
          refine z_tl (pk_lDiv (by omega) hp0 (by omega)) ?_
          refine z_l2i F dX8_shrinkBy_47 ?_
          refine z_ti (lN_i _) ?_
          refine z_iast F dX8_shrinkBy_48 (by assumption) (in16 ho hkL) ?_
          refine z_V (show _ = sA V g (upd f k (nI ((x / 4294967296 ^ (k + 1) % p * 4294967296 + x / 4294967296 ^ k % 4294967296) / p))) by rw [vA_sA_self, sA_sA, hcl]) ?_
          refine z_lload_n F dX8_shrinkBy_49 rfl ?_
          refine z_iload_n F dX8_shrinkBy_50 rfl ?_
          refine z_i2l F dX8_shrinkBy_51 ?_
          refine z_tl hp64 ?_
          refine z_lrem F dX8_shrinkBy_52 hpne ?_
          refine z_tl (pk_lRem (by omega) hp0 (by omega)) ?_
          refine z_tl (by rw [rest_step]) ?_
          refine z_lstore_n_2 F dX8_shrinkBy_53 rfl ?_
          refine z_iinc_4 F dX8_shrinkBy_54 rfl ?_
          refine z_goto (tgt := 10) F dX8_shrinkBy_57 (by decide) ?_
          rw [nI_m1]
          refine ih _ (by omega) (fun j h3 h4 => ?_) (fun j h3 => by rw [pk_un (by omega)]; exact h2 j (by omega))
          by_cases hj : j = k
          · subst hj
            rw [pk_us, uu_nI, quot_step hp0]
            omega
          · rw [pk_un hj]
            exact h1 j (by omega) h4
  refine z_lconst (v := lN 0) F dX8_shrinkBy_0 (by decide) ?_
  refine z_lstore_n_2 F dX8_shrinkBy_1 rfl ?_
  refine z_aload_n F dX8_shrinkBy_2 rfl ?_
  refine z_getI F dX8_shrinkBy_3 gi_X8_19 (by assumption) ?_
  refine z_ti hv.2 ?_
  refine z_iconst (v := nI 1) F dX8_shrinkBy_6 (by decide) ?_
  refine z_isub F dX8_shrinkBy_7 ?_
  refine z_istore_4 F dX8_shrinkBy_8 rfl ?_
  have e0 : lN 0 = lN (x / 4294967296 ^ nl x % p) := by rw [Nat.div_eq_of_lt (lt_pow_nl x), Nat.zero_mod]
  rw [e0]
  refine z_V (sA_id V g).symm ?_
  refine loop (nl x) (vA V g) (Nat.le_refl _) (fun j h1 h2 => ?_) (fun j _ => rfl)
  rw [hv.hi j h1 h2, Nat.div_eq_of_lt (a := x / p) (Nat.lt_of_le_of_lt (Nat.div_le_self _ _) (Nat.lt_of_lt_of_le (lt_pow_nl x) (Nat.pow_le_pow_right (by decide) h1)))]
  rfl
