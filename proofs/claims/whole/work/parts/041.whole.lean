/-! ===== Whole: trim, append, setBits ===== -/
set_option maxRecDepth 100000 in
theorem c_trim {Γ : Gm} {Z : Hz} {V : Hv} {o g x L : Nat} (ho : wh Z o g) (hx : vl (vA V g) 16 = x) (hL : vI V 7 1 o = nI L) (h16 : L ≤ 16) (hlt : x < 4294967296 ^ L) : zCt Γ mX8_trim 0 0 0 0 [.ref o] (Z, V) (pV (fun S' => S' = (Z, sI V 7 1 o (nI (nl x))))) := by
  refine zCt.of [some (.ref o)] pn_X8_trim rfl (Nat.le_of_ble_eq_true rfl) rfl (fun κ F => ?_)
  obtain ⟨ho7, hog, hg, hn⟩ := id ho
  have loop : ∀ (L : Nat) (V' : Hv), vA V' g = vA V g → vI V' 7 1 o = nI L → sI V' 7 1 o (nI (nl x)) = sI V 7 1 o (nI (nl x)) → L ≤ 16 → x < 4294967296 ^ L → zX Γ κ (Z, V') 0 0 (zQ Γ κ (pV (fun S' => S' = (Z, sI V 7 1 o (nI (nl x))))) 0 0) 0 [some (.ref o)] [] := by
    intro L
    induction L with
    | zero =>
      intro V' hA hI hE h16 hlt
      refine z_aload_n F dX8_trim_0 rfl ?_
      refine z_getI F dX8_trim_1 gi_X8_19 (by assumption) ?_
      refine z_ti hI ?_
      refine z_if_le (tgt := 34) F dX8_trim_4 (by decide) (fun c => ?_) (fun c => ?_)
      · have hx0 : x = 0 := by omega
        have : V' = sI V 7 1 o (nI (nl x)) := by
          rw [← hE, sI_id (by rw [hI, hx0]; rfl)]
        exact z_vret F dX8_trim_34 rfl (by rw [this])
      · exact absurd (by decide) c
    | succ L ih =>
      intro V' hA hI hE h16 hlt
      have e0 : nI (L + 1) - nI 1 = nI L := pk_sub (by omega)
      have eL : vA V' g L = nI (x / 4294967296 ^ L % 4294967296) := by
        rw [hA, ← nI_uu (vA V g L), vl_digit _ (show L < 16 by omega), hx]
      refine z_aload_n F dX8_trim_0 rfl ?_
      refine z_getI F dX8_trim_1 gi_X8_19 (by assumption) ?_
      refine z_ti hI ?_
      refine z_if_le (tgt := 34) F dX8_trim_4 (by decide) (fun c => ?_) (fun c => ?_)
      · exact absurd ((nI_le0 (by omega)).mp c) (by omega)
      · refine z_aload_n F dX8_trim_7 rfl ?_
        refine z_getR F dX8_trim_8 gr_X8_9 (by assumption) (by assumption) ?_
        refine z_aload_n F dX8_trim_11 rfl ?_
        refine z_getI F dX8_trim_12 gi_X8_19 (by assumption) ?_
        refine z_ti hI ?_
        refine z_iconst (v := nI 1) F dX8_trim_15 (by decide) ?_
        refine z_isub F dX8_trim_16 ?_
        refine z_ti e0 ?_
        refine z_iald F dX8_trim_17 (by assumption) (in16 ho (by omega)) ?_
        refine z_ti ((congrArg (vA V' g) (cl16 (by omega))).trans eL) ?_
        refine z_if_ne (tgt := 34) F dX8_trim_18 (by decide) (fun c2 => ?_) (fun c2 => ?_)
        · skip
          have h2 : nl x = L + 1 := nl_eq hlt (Or.inr (by
            have : ¬ x < 4294967296 ^ L := fun z => c2 (by rw [(dig_0 hlt).mpr z]; rfl)
            simpa using this))
          have : V' = sI V 7 1 o (nI (nl x)) := by
            rw [← hE, sI_id (by rw [hI, h2])]
          exact z_vret F dX8_trim_34 rfl (by rw [this])
        · have h1 : x < 4294967296 ^ L := (dig_0 hlt).mp ((nI_ne0' (by omega)).mp c2)
          refine z_aload_n F dX8_trim_21 rfl ?_
          refine z_dup F dX8_trim_22 rfl ?_
          refine z_getI F dX8_trim_23 gi_X8_19 (by assumption) ?_
          refine z_ti hI ?_
          refine z_iconst (v := nI 1) F dX8_trim_26 (by decide) ?_
          refine z_isub F dX8_trim_27 ?_
          refine z_ti e0 ?_
          refine z_putI F dX8_trim_28 pi_X8_19 (zf_7_1 _) (by assumption) ?_
          refine z_goto (tgt := 0) F dX8_trim_31 (by decide) ?_
          exact ih _ hA (vI_sI_self _ _ _ _ _) (by rw [sI_sI, hE]) (by omega) h1
  exact loop L V rfl hL rfl h16 hlt
set_option maxRecDepth 100000 in
/-- append(limb): a limb that is not 0 goes on top -/
theorem c_append {Γ : Gm} {Z : Hz} {V : Hv} {o g L : Nat} {a : Int32} (ho : wh Z o g) (hL : vI V 7 1 o = nI L) (h16 : L ≤ 16) (ha : L = 16 → a = 0) : zCt Γ mX8_append 0 0 0 0 [.ref o, .int a] (Z, V) (pV (fun S' => S' = (Z, if a = 0 then V else sI (sA V g (upd (vA V g) L a)) 7 1 o (nI (L + 1))))) := by
  refine zCt.of [some (.ref o), some (.int a)] pn_X8_append rfl (Nat.le_of_ble_eq_true rfl) rfl (fun κ F => ?_)
  obtain ⟨ho7, hog, hg, hn⟩ := id ho
  refine z_iload_n F dX8_append_0 rfl ?_
  refine z_if_eq (tgt := 33) F dX8_append_1 (by decide) (fun c => ?_) (fun c => ?_)
  · exact z_vret F dX8_append_33 rfl (by rw [if_pos c])
  · refine z_aload_n F dX8_append_4 rfl ?_
    refine z_getI F dX8_append_5 gi_X8_19 (by assumption) ?_
    refine z_ti hL ?_
    refine z_bipush (v := nI 16) F dX8_append_8 (by decide) ?_
    refine z_icmp_ge (tgt := 33) F dX8_append_10 (by decide) (fun c2 => ?_) (fun c2 => ?_)
    · have := (nI_leI (a := 16) (b := L) (by omega) (by omega)).mp c2
      exact absurd (ha (by omega)) c
    · have h3 := mt (nI_leI (a := 16) (b := L) (by omega) (by omega)).mpr c2
      have e1 : nI L + nI 1 = nI (L + 1) := nI_add L 1
      have hI : vI (sA V g (upd (vA V g) L a)) 7 1 o = nI L := hL
      refine z_aload_n F dX8_append_13 rfl ?_
      refine z_getR F dX8_append_14 gr_X8_9 (by assumption) (by assumption) ?_
      refine z_aload_n F dX8_append_17 rfl ?_
      refine z_getI F dX8_append_18 gi_X8_19 (by assumption) ?_
      refine z_ti hL ?_
      refine z_iload_n F dX8_append_21 rfl ?_
      refine z_iast F dX8_append_22 (by assumption) (in16 ho (by omega)) ?_
      rw [cl16 (show L < 16 by omega)]
      refine z_aload_n F dX8_append_23 rfl ?_
      refine z_dup F dX8_append_24 rfl ?_
      refine z_getI F dX8_append_25 gi_X8_19 (by assumption) ?_
      refine z_ti hI ?_
      refine z_iconst (v := nI 1) F dX8_append_28 (by decide) ?_
      refine z_iadd F dX8_append_29 ?_
      refine z_ti e1 ?_
      refine z_putI F dX8_append_30 pi_X8_19 (zf_7_1 _) (by assumption) ?_
      exact z_vret F dX8_append_33 rfl (by rw [if_neg c])
set_option maxRecDepth 100000 in
/-- setBits(bits): the 64 bits, read without a sign -/
theorem c_setBits {Γ : Gm} {Z : Hz} {V : Hv} {o g x n : Nat} (ho : wh Z o g) (hv : vv V o g x) (hn : n < 18446744073709551616) : zCt Γ mX8_setBits 0 0 0 0 [.ref o, .long (lN n)] (Z, V) (pV (rW Z V o g n)) := by
  refine zCt.of [some (.ref o), some (.long (lN n)), none, none] pn_X8_setBits rfl (Nat.le_of_ble_eq_true rfl) rfl (fun κ F => ?_)
  obtain ⟨ho7, hog, hg, hn16⟩ := id ho
  have hl := hv.len
  have fin : ∀ (f : Nat → Int32) (u : Option Value), (∀ j, 2 ≤ j → j < 16 → f j = 0) → zX Γ κ (Z, sA V g f) 0 0 (zQ Γ κ (pV (rW Z V o g n)) 0 0) 23 [some (.ref o), some (.long (lN n)), none, u] [] := by
    intro f u hf
    have e1 : vl (upd (upd f 0 (nI n)) 1 (nI (n / 4294967296))) 16 = n := by
      rw [vl_top (m := 2) (by decide) (fun i h1 h2 => by rw [pk_un (by omega), pk_un (by omega)]; exact hf i h1 h2)]
      have a0 : upd (upd f 0 (nI n)) 1 (nI (n / 4294967296)) 0 = nI n := by rw [pk_un (by decide), pk_us]
      have a1 : upd (upd f 0 (nI n)) 1 (nI (n / 4294967296)) 1 = nI (n / 4294967296) := pk_us
      simp only [vl, a0, a1, uu_nI, Nat.pow_zero, Nat.pow_one]
      omega
    have r1 : upd (upd f 0 (nI n)) 1 (nI (n / 4294967296)) (nI 1).toNatClampNeg = nI (n / 4294967296) := pk_us
    have r0 : upd (upd f 0 (nI n)) 1 (nI (n / 4294967296)) (nI 0).toNatClampNeg = nI n := by
      show upd (upd f 0 (nI n)) 1 (nI (n / 4294967296)) 0 = nI n
      rw [pk_un (by decide), pk_us]
    refine z_aload_n F dX8_setBits_23 rfl ?_
    refine z_getR F dX8_setBits_24 gr_X8_9 (by assumption) (by assumption) ?_
    refine z_iconst (v := nI 0) F dX8_setBits_27 (by decide) ?_
    refine z_lload_n F dX8_setBits_28 rfl ?_
    refine z_l2i F dX8_setBits_29 ?_
    refine z_ti (lN_i n) ?_
    refine z_iast F dX8_setBits_30 (by assumption) (in16 ho (by decide)) ?_
    refine z_V (show _ = sA V g (upd f 0 (nI n)) by rw [vA_sA_self, sA_sA]; rfl) ?_
    refine z_aload_n F dX8_setBits_31 rfl ?_
    refine z_getR F dX8_setBits_32 gr_X8_9 (by assumption) (by assumption) ?_
    refine z_iconst (v := nI 1) F dX8_setBits_35 (by decide) ?_
    refine z_lload_n F dX8_setBits_36 rfl ?_
    refine z_bipush (v := nI 32) F dX8_setBits_37 (by decide) ?_
    refine z_lushr F dX8_setBits_39 ?_
    refine z_tl (lN_shr32 hn) ?_
    refine z_l2i F dX8_setBits_40 ?_
    refine z_ti (lN_i _) ?_
    refine z_iast F dX8_setBits_41 (by assumption) (in16 ho (by decide)) ?_
    refine z_V (show _ = sA V g (upd (upd f 0 (nI n)) 1 (nI (n / 4294967296))) by rw [vA_sA_self, sA_sA]; rfl) ?_
    have hA : vA (sA V g (upd (upd f 0 (nI n)) 1 (nI (n / 4294967296)))) g = upd (upd f 0 (nI n)) 1 (nI (n / 4294967296)) := vA_sA_self _ _ _
    have e2 : vl (vA (sA V g (upd (upd f 0 (nI n)) 1 (nI (n / 4294967296)))) g) 16 = n := by rw [hA]; exact e1
    refine z_aload_n F dX8_setBits_42 rfl ?_
    refine z_aload_n F dX8_setBits_43 rfl ?_
    refine z_getR F dX8_setBits_44 gr_X8_9 (by assumption) (by assumption) ?_
    refine z_iconst (v := nI 1) F dX8_setBits_47 (by decide) ?_
    refine z_iald F dX8_setBits_48 (by assumption) (in16 ho (by decide)) ?_
    refine z_ti ((congrFun hA _).trans r1) ?_
    refine z_if_eq (tgt := 56) F dX8_setBits_49 (by decide) (fun c => ?_) (fun c => ?_)
    · have h1 : n / 4294967296 = 0 := by
        have := (nI_ne0' (by omega)).mp c
        exact this
      refine z_aload_n F dX8_setBits_56 rfl ?_
      refine z_getR F dX8_setBits_57 gr_X8_9 (by assumption) (by assumption) ?_
      refine z_iconst (v := nI 0) F dX8_setBits_60 (by decide) ?_
      refine z_iald F dX8_setBits_61 (by assumption) (in16 ho (by decide)) ?_
      refine z_ti ((congrFun hA _).trans r0) ?_
      refine z_if_eq (tgt := 69) F dX8_setBits_62 (by decide) (fun c2 => ?_) (fun c2 => ?_)
      · have h0 : n = 0 := (nI_ne0' (by omega)).mp c2
        refine z_iconst (v := nI 0) F dX8_setBits_69 (by decide) ?_
        refine z_putI F dX8_setBits_70 pi_X8_19 (zf_7_1 _) (by assumption) ?_
        exact z_vret F dX8_setBits_73 rfl ⟨_, rfl, oW.mk V o g _ _, e2, by rw [vI_sI_self, h0]; rfl⟩
      · have h0 : ¬ n = 0 := fun z => c2 (by rw [z]; rfl)
        have h2 : nl n = 1 := nl_eq (by omega) (Or.inr (by simp; omega))
        refine z_iconst (v := nI 1) F dX8_setBits_65 (by decide) ?_
        refine z_goto (tgt := 70) F dX8_setBits_66 (by decide) ?_
        refine z_putI F dX8_setBits_70 pi_X8_19 (zf_7_1 _) (by assumption) ?_
        exact z_vret F dX8_setBits_73 rfl ⟨_, rfl, oW.mk V o g _ _, e2, by rw [vI_sI_self, h2]⟩
    · have h1 : ¬ n / 4294967296 = 0 := fun z => c (by rw [z]; rfl)
      have h2 : nl n = 2 := nl_eq (by omega) (Or.inr (by simp; omega))
      refine z_iconst (v := nI 2) F dX8_setBits_52 (by decide) ?_
      refine z_goto (tgt := 70) F dX8_setBits_53 (by decide) ?_
      refine z_putI F dX8_setBits_70 pi_X8_19 (zf_7_1 _) (by assumption) ?_
      exact z_vret F dX8_setBits_73 rfl ⟨_, rfl, oW.mk V o g _ _, e2, by rw [vI_sI_self, h2]⟩
  have loop : ∀ (d i : Nat) (f : Nat → Int32), 2 ≤ i → i ≤ 16 → nl x ≤ i + d → (∀ j, 2 ≤ j → j < i → f j = 0) → (∀ j, i ≤ j → f j = vA V g j) → zX Γ κ (Z, sA V g f) 0 0 (zQ Γ κ (pV (rW Z V o g n)) 0 0) 2 [some (.ref o), some (.long (lN n)), none, some (.int (nI i))] [] := by
    intro d
    induction d with
    | zero =>
      intro i f h2 h16 hi h3 h4
      refine z_iload_n F dX8_setBits_2 rfl ?_
      refine z_aload_n F dX8_setBits_3 rfl ?_
      refine z_getI F dX8_setBits_4 gi_X8_19 (by assumption) ?_
      refine z_ti (show _ = nI (nl x) from hv.2) ?_
      refine z_icmp_ge (tgt := 23) F dX8_setBits_7 (by decide) (fun c => ?_) (fun c => ?_)
      · exact fin f _ (fun j h5 h6 => by
          rcases Nat.lt_or_ge j i with h7 | h7
          · exact h3 j h5 h7
          · rw [h4 j h7]; exact hv.hi j (by omega) h6)
      · exact absurd (nI_le (by omega) (by omega)) c
    | succ d ih =>
      intro i f h2 h16 hi h3 h4
      refine z_iload_n F dX8_setBits_2 rfl ?_
      refine z_aload_n F dX8_setBits_3 rfl ?_
      refine z_getI F dX8_setBits_4 gi_X8_19 (by assumption) ?_
      refine z_ti (show _ = nI (nl x) from hv.2) ?_
      refine z_icmp_ge (tgt := 23) F dX8_setBits_7 (by decide) (fun c => ?_) (fun c => ?_)
      · have c' := (nI_leI (by omega) (by omega)).mp c
        exact fin f _ (fun j h5 h6 => by
          rcases Nat.lt_or_ge j i with h7 | h7
          · exact h3 j h5 h7
          · rw [h4 j h7]; exact hv.hi j (by omega) h6)
      · have c' := mt (nI_leI (a := nl x) (b := i) (by omega) (by omega)).mpr c
        refine z_aload_n F dX8_setBits_10 rfl ?_
        refine z_getR F dX8_setBits_11 gr_X8_9 (by assumption) (by assumption) ?_
        refine z_iload_n F dX8_setBits_14 rfl ?_
        refine z_iconst (v := nI 0) F dX8_setBits_15 (by decide) ?_
        refine z_iast F dX8_setBits_16 (by assumption) (in16 ho (by omega)) ?_
        refine z_V (show _ = sA V g (upd f i 0) by rw [vA_sA_self, sA_sA, cl16 (by omega)]; rfl) ?_
        refine z_iinc_3 F dX8_setBits_17 rfl ?_
        refine z_goto (tgt := 2) F dX8_setBits_20 (by decide) ?_
        have e : nI i + Int32.ofInt 1 = nI (i + 1) := nI_1 i
        rw [e]
        refine ih (i + 1) (upd f i 0) (by omega) (by omega) (by omega) (fun j h5 h6 => ?_) (fun j h5 => ?_)
        · by_cases h7 : j = i
          · rw [h7, pk_us]
          · rw [pk_un h7]; exact h3 j h5 (by omega)
        · rw [pk_un (by omega)]; exact h4 j (by omega)
  refine z_iconst (v := nI 2) F dX8_setBits_0 (by decide) ?_
  refine z_istore_n_3 F dX8_setBits_1 rfl ?_
  refine z_V (sA_id V g).symm ?_
  exact loop 16 2 (vA V g) (Nat.le_refl 2) (by decide) (by omega) (fun j h1 h2 => by omega) (fun j _ => rfl)
set_option maxRecDepth 100000 in
/-- copy(from) -/
theorem c_copy {Γ : Gm} {Z : Hz} {V : Hv} {o g o' g' y : Nat} (ho : wh Z o g) (ho' : wh Z o' g') (hv : vv V o' g' y) : zCt Γ mX8_copy 1 38 0 0 [.ref o, .ref o'] (Z, V) (pV (rW Z V o g y)) := by
  refine zCt.of [some (.ref o), some (.ref o')] pn_X8_copy rfl (Nat.le_of_ble_eq_true rfl) rfl (fun κ F => ?_)
  obtain ⟨ho7, hog, hg, hn16⟩ := id ho
  obtain ⟨ho7', hog', hg', hn16'⟩ := id ho'
  refine z_aload_n F dX8_copy_0 rfl ?_
  refine z_getR F dX8_copy_1 gr_X8_9 (by assumption) (by assumption) ?_
  refine z_iconst (v := nI 0) F dX8_copy_4 (by decide) ?_
  refine z_aload_n F dX8_copy_5 rfl ?_
  refine z_getR F dX8_copy_6 gr_X8_9 (by assumption) (by assumption) ?_
  refine z_iconst (v := nI 0) F dX8_copy_9 (by decide) ?_
  refine z_bipush (v := nI 16) F dX8_copy_10 (by decide) ?_
  refine z_copy F dX8_copy_12 ml_X8_13 rfl (by decide +kernel) (by assumption) (by assumption) (by decide) (by decide) (by decide) (by show 0 + 16 ≤ zn Z g'; omega) (by show 0 + 16 ≤ zn Z g; omega) ?_
  have hI : vI (sA V g (va_cpy (vA V g') (vA V g) 0 0 16)) 7 1 o' = nI (nl y) := hv.2
  refine z_aload_n F dX8_copy_15 rfl ?_
  refine z_aload_n F dX8_copy_16 rfl ?_
  refine z_getI F dX8_copy_17 gi_X8_19 (by assumption) ?_
  refine z_ti hI ?_
  refine z_putI F dX8_copy_20 pi_X8_19 (zf_7_1 _) (by assumption) ?_
  exact z_vret F dX8_copy_23 rfl ⟨_, rfl, oW.mk V o g _ _, by
    show vl (vA (sA V g _) g) 16 = y
    rw [vA_sA_self, ← hv.1]
    exact vl_congr (fun i hi => sb_cpy0 hi), by rw [vI_sI_self]⟩
