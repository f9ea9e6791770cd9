/-! ===== Arithmetic: commonOf, findCommon, haveNothingCommon, cut ===== -/
theorem mod_half {a b : Nat} (h : 0 < b) : a % b < b ∧ (0 < a % b → 2 * (b % (a % b)) < b) := by
  have h1 := Nat.mod_lt a h
  refine ⟨h1, fun h2 => ?_⟩
  have h3 := Nat.mod_lt b h2
  have h4 := Nat.div_add_mod b (a % b)
  have h5 : 0 < b / (a % b) := Nat.div_pos (Nat.le_of_lt h1) h2
  have h6 : a % b * 1 ≤ a % b * (b / (a % b)) := Nat.mul_le_mul_left _ h5
  omega
theorem gcd_rot (a b : Nat) : Nat.gcd b (a % b) = Nat.gcd a b := by
  rw [Nat.gcd_comm a b, Nat.gcd_rec b a, Nat.gcd_comm]
set_option maxRecDepth 100000 in
theorem c_commonOf {Γ : Gm} {S : Hs} {a b : Nat} (ha : a < 9223372036854775808) (hb : b < 9223372036854775808) : zCt Γ mX0_commonOf 0 0 0 0 [.long (lN a), .long (lN b)] S (pL (fun r S' => r = lN (Nat.gcd a b) ∧ S' = S)) := by
  refine zCt.of [some (.long (lN a)), none, some (.long (lN b)), none, none, none, none, none, none, none, none] pn_X0_commonOf rfl (Nat.le_of_ble_eq_true rfl) rfl (fun κ F => ?_)
  generalize hQ : zQ Γ κ (pL (fun r S' => r = lN (Nat.gcd a b) ∧ S' = S)) 0 0 = Q
  -- the loop's head
  have hcmp : ∀ {y : Nat}, y < 9223372036854775808 → (lg_cmp (lN y) (lN 0) = 0 ↔ y = 0) := fun {y} hy => by
    rw [lg_cmp_eq]
    exact pk_lEQ (by omega) (by decide)
  have done : ∀ (x : Nat) (i : Nat) (l9 : Option Value), x = Nat.gcd a b → i < 2147483648 → zX Γ κ S 0 0 Q 9 [some (.long (lN a)), none, some (.long (lN b)), none, some (.long (lN x)), none, some (.long (lN 0)), none, some (.int (nI i)), l9, none] [] := by
    intro x i l9 hx hi
    subst hQ
    refine z_iload F dX0_commonOf_9 rfl ?_
    refine z_ldc (v := 100000) F dX0_commonOf_11 cn_X0_119 ?_
    refine z_ti (show (100000 : Int32) = nI 100000 from rfl) ?_
    refine z_icmp_ge (tgt := 44) F dX0_commonOf_13 (by decide) (fun c => ?_) (fun c => ?_)
    · refine z_lload F dX0_commonOf_44 rfl ?_
      exact z_lret F dX0_commonOf_46 rfl ⟨by rw [hx], rfl⟩
    · refine z_lload F dX0_commonOf_16 rfl ?_
      refine z_lconst (v := lN 0) F dX0_commonOf_18 (by decide) ?_
      refine z_lcmp F dX0_commonOf_19 ?_
      refine z_if_eq (tgt := 44) F dX0_commonOf_20 (by decide) (fun c2 => ?_) (fun c2 => ?_)
      · refine z_lload F dX0_commonOf_44 rfl ?_
        exact z_lret F dX0_commonOf_46 rfl ⟨by rw [hx], rfl⟩
      · exact absurd ((hcmp (by decide)).mpr rfl) c2
  have iter : ∀ (x y i : Nat) (l9 : Option Value), x < 9223372036854775808 → y < 9223372036854775808 → 0 < y → i < 100000 → (∀ l9, zX Γ κ S 0 0 Q 9 [some (.long (lN a)), none, some (.long (lN b)), none, some (.long (lN y)), none, some (.long (lN (x % y))), none, some (.int (nI (i + 1))), l9, none] []) → zX Γ κ S 0 0 Q 9 [some (.long (lN a)), none, some (.long (lN b)), none, some (.long (lN x)), none, some (.long (lN y)), none, some (.int (nI i)), l9, none] [] := by
    intro x y i l9 hx hy hy0 hi next
    have yne : ¬ lN y = 0 := fun z => by
      have := (pk_lEQ (a := y) (b := 0) (by omega) (by decide)).mp z
      omega
    refine z_iload F dX0_commonOf_9 rfl ?_
    refine z_ldc (v := 100000) F dX0_commonOf_11 cn_X0_119 ?_
    refine z_ti (show (100000 : Int32) = nI 100000 from rfl) ?_
    refine z_icmp_ge (tgt := 44) F dX0_commonOf_13 (by decide) (fun c => ?_) (fun c => ?_)
    · have := (nI_leI (a := 100000) (b := i) (by omega) (by omega)).mp c
      omega
    · refine z_lload F dX0_commonOf_16 rfl ?_
      refine z_lconst (v := lN 0) F dX0_commonOf_18 (by decide) ?_
      refine z_lcmp F dX0_commonOf_19 ?_
      refine z_if_eq (tgt := 44) F dX0_commonOf_20 (by decide) (fun c2 => ?_) (fun c2 => ?_)
      · have := (hcmp hy).mp c2
        omega
      · refine z_lload F dX0_commonOf_23 rfl ?_
        refine z_lload F dX0_commonOf_25 rfl ?_
        refine z_lrem F dX0_commonOf_27 yne ?_
        refine z_tl (pk_lRem (by omega) hy0 (by omega)) ?_
        refine z_lstore_9 F dX0_commonOf_28 rfl ?_
        refine z_lload F dX0_commonOf_30 rfl ?_
        refine z_lstore_4 F dX0_commonOf_32 rfl ?_
        refine z_lload F dX0_commonOf_34 rfl ?_
        refine z_lstore_6 F dX0_commonOf_36 rfl ?_
        refine z_iinc_8 F dX0_commonOf_38 rfl ?_
        refine z_goto (tgt := 9) F dX0_commonOf_41 (by decide) ?_
        rw [show nI i + Int32.ofInt 1 = nI (i + 1) from nI_1 i]
        exact next _
  have loop : ∀ (k x y i : Nat) (l9 : Option Value), x < 9223372036854775808 → y < 9223372036854775808 → y < 2 ^ k → i + 2 * k < 100000 → Nat.gcd x y = Nat.gcd a b → zX Γ κ S 0 0 Q 9 [some (.long (lN a)), none, some (.long (lN b)), none, some (.long (lN x)), none, some (.long (lN y)), none, some (.int (nI i)), l9, none] [] := by
    intro k
    induction k with
    | zero =>
      intro x y i l9 hx hy hyk hi hg
      have hy0 : y = 0 := by omega
      subst hy0
      exact done x i l9 (by rw [← hg, Nat.gcd_zero_right]) (by omega)
    | succ k ih =>
      intro x y i l9 hx hy hyk hi hg
      rcases Nat.eq_zero_or_pos y with hy0 | hy0
      · subst hy0
        exact done x i l9 (by rw [← hg, Nat.gcd_zero_right]) (by omega)
      · obtain ⟨m1, m2⟩ := mod_half (a := x) hy0
        refine iter x y i l9 hx hy hy0 (by omega) (fun l9 => ?_)
        have hg1 : Nat.gcd y (x % y) = Nat.gcd a b := by rw [gcd_rot, hg]
        rcases Nat.eq_zero_or_pos (x % y) with hr0 | hr0
        · rw [hr0]
          exact done y (i + 1) l9 (by rw [← hg1, hr0, Nat.gcd_zero_right]) (by omega)
        · refine iter y (x % y) (i + 1) l9 hy (by omega) hr0 (by omega) (fun l9 => ?_)
          have m3 := m2 hr0
          rw [Nat.pow_succ] at hyk
          exact ih (x % y) (y % (x % y)) (i + 1 + 1) l9 (by omega) (by omega) (by omega) (by omega) (by rw [gcd_rot, hg1])
  refine z_lload_n F dX0_commonOf_0 rfl ?_
  refine z_lstore_4 F dX0_commonOf_1 rfl ?_
  refine z_lload_n F dX0_commonOf_3 rfl ?_
  refine z_lstore_6 F dX0_commonOf_4 rfl ?_
  refine z_iconst (v := nI 0) F dX0_commonOf_6 (by decide) ?_
  refine z_istore_8 F dX0_commonOf_7 rfl ?_
  exact loop 63 a b 0 none ha hb (by omega) (by decide) rfl
/-- what findCommon leaves: common, and its own scratch -/
def fP (Z : Hz) (V : Hv) (val w : Nat → Nat) (x : Nat) : Hs → Prop := fun S' => ∃ (V' : Hv) (val' : Nat → Nat), S' = (Z, V') ∧ CV Z V' val' ∧ eN Z V V' ∧ val' (w 4) = x ∧ eV (fun q => q = w 0 ∨ q = w 1 ∨ q = w 2 ∨ q = w 3 ∨ q = w 4) val val'
set_option maxRecDepth 100000 in
set_option maxHeartbeats 1000000 in
theorem c_findCommon {Γ : Gm} {Z : Hz} {V : Hv} {val w : Nat → Nat} {A a b : Nat} (hJ : wInj Z) (hA : aR Z A w) (hC : CV Z V val) (ha : iW Z a) (hb : iW Z b) (hb2 : b ≠ w 2) (hxa : val a < 4294967296 ^ 14) (hxb : val b < 4294967296 ^ 14) : zCt Γ mX0_findCommon 3 89 0 0 [.ref A, .ref a, .ref b] (Z, V) (pV (fP Z V val w (Nat.gcd (val a) (val b)))) := by
  refine zCt.of [some (.ref A), some (.ref a), some (.ref b), none, none, none, none] pn_X0_findCommon rfl (Nat.le_of_ble_eq_true rfl) rfl (fun κ F => ?_)
  obtain ⟨hA0, hAf, hAi⟩ := id hA
  obtain ⟨f1, i1⟩ := hAf 1 (by decide)
  obtain ⟨f2, i2⟩ := hAf 2 (by decide)
  obtain ⟨f3, i3⟩ := hAf 3 (by decide)
  obtain ⟨f4, i4⟩ := hAf 4 (by decide)
  have ka : zIn Z a 7 := ha.choose_spec.1
  have kb : zIn Z b 7 := hb.choose_spec.1
  have kw : ∀ k, k < 12 → zIn Z (w k) 7 := fun k hk => (hAf k hk).2.choose_spec.1
  have nw : ∀ i j, i < 12 → j < 12 → i ≠ j → w i ≠ w j := fun i j hi hj hij => hA.ne hi hj hij
  generalize hQ : zQ Γ κ (pV (fP Z V val w (Nat.gcd (val a) (val b)))) 0 0 = Q
  have one : Nat.gcd (val a) (val b) = 1 → zX Γ κ (Z, V) 0 0 Q 14 [some (.ref A), some (.ref a), some (.ref b), none, none, none, none] [] := by
    intro hg
    refine z_aload_n F dX0_findCommon_14 rfl ?_
    refine z_getR F dX0_findCommon_15 gr_X0_25 (by assumption) (by assumption) ?_
    refine z_lconst (v := lN 1) F dX0_findCommon_18 (by decide) ?_
    refine z_cVv F (C_setBits hC hJ i4 (show 1 < 18446744073709551616 by decide)) dX0_findCommon_19 ml_X0_49 ok_X8_setBits (kw 4 (by decide)) (by decide) rfl rfl rfl (Nat.le_of_ble_eq_true rfl) (by decide) (by decide) (fun S' hS' => ?_)
    obtain ⟨V', rfl, hC', hN'⟩ := hS'
    subst hQ
    exact z_vret F dX0_findCommon_22 rfl ⟨V', _, rfl, hC', hN', by rw [up_self, hg], (eV.refl _ _).up (by simp)⟩
  refine z_aload_n F dX0_findCommon_0 rfl ?_
  refine z_cVz F (C_isOne hC ha) dX0_findCommon_1 ml_X0_116 ok_X8_isOne ka (by decide) rfl rfl rfl (Nat.le_of_ble_eq_true rfl) (by decide) (by decide) (fun r S' hr => ?_)
  obtain ⟨rfl, rfl⟩ := hr
  refine z_if_ne (tgt := 14) F dX0_findCommon_4 (by decide) (fun c => ?_) (fun c => ?_)
  · have h1 : val a = 1 := by
      apply Decidable.byContradiction
      intro z
      exact c (by simp [z])
    exact one (by rw [h1, Nat.gcd_one_left])
  refine z_aload_n F dX0_findCommon_7 rfl ?_
  refine z_cVz F (C_isOne hC hb) dX0_findCommon_8 ml_X0_116 ok_X8_isOne kb (by decide) rfl rfl rfl (Nat.le_of_ble_eq_true rfl) (by decide) (by decide) (fun r S' hr => ?_)
  obtain ⟨rfl, rfl⟩ := hr
  refine z_if_eq (tgt := 23) F dX0_findCommon_11 (by decide) (fun c2 => ?_) (fun c2 => ?_)
  rotate_left
  · have h1 : val b = 1 := by
      apply Decidable.byContradiction
      intro z
      exact c2 (by simp [z])
    exact one (by rw [h1, Nat.gcd_one_right])
  refine z_aload_n F dX0_findCommon_23 rfl ?_
  refine z_getR F dX0_findCommon_24 gr_X0_19 (by assumption) (by assumption) ?_
  refine z_astore_n_3 F dX0_findCommon_27 rfl ?_
  refine z_aload_n F dX0_findCommon_28 rfl ?_
  refine z_getR F dX0_findCommon_29 gr_X0_22 (by assumption) (by assumption) ?_
  refine z_astore_4 F dX0_findCommon_32 rfl ?_
  refine z_aload_n F dX0_findCommon_34 rfl ?_
  refine z_aload_n F dX0_findCommon_35 rfl ?_
  refine z_cVv F (C_copy hC hJ i2 ha) dX0_findCommon_36 ml_X0_82 ok_X8_copy (kw 2 (by decide)) (by decide) rfl rfl rfl (Nat.le_of_ble_eq_true rfl) (by decide) (by decide) (fun S' hS' => ?_)
  obtain ⟨Va, rfl, hCa, hNa⟩ := hS'
  refine z_aload F dX0_findCommon_39 rfl ?_
  refine z_aload_n F dX0_findCommon_41 rfl ?_
  refine z_cVv F (C_copy hCa hJ i3 hb) dX0_findCommon_42 ml_X0_82 ok_X8_copy (kw 3 (by decide)) (by decide) rfl rfl rfl (Nat.le_of_ble_eq_true rfl) (by decide) (by decide) (fun S' hS' => ?_)
  obtain ⟨Vb, rfl, hCb, hNb⟩ := hS'
  rw [up_ne _ _ hb2] at hCb
  -- the two Wholes that change their parts
  have sw : ∀ p q : Nat, (p = w 2 ∧ q = w 3) ∨ (p = w 3 ∧ q = w 2) → iW Z p ∧ iW Z q ∧ p ≠ q ∧ (∀ k, k < 12 → k ≠ 2 → k ≠ 3 → p ≠ w k ∧ q ≠ w k) ∧ (p = w 2 ∨ p = w 3) ∧ (q = w 2 ∨ q = w 3) := by
    intro p q h
    rcases h with ⟨rfl, rfl⟩ | ⟨rfl, rfl⟩
    · exact ⟨i2, i3, nw 2 3 (by decide) (by decide) (by decide), fun k hk h2 h3 => ⟨nw 2 k (by decide) hk (Ne.symm h2), nw 3 k (by decide) hk (Ne.symm h3)⟩, Or.inl rfl, Or.inr rfl⟩
    · exact ⟨i3, i2, nw 3 2 (by decide) (by decide) (by decide), fun k hk h2 h3 => ⟨nw 3 k (by decide) hk (Ne.symm h3), nw 2 k (by decide) hk (Ne.symm h2)⟩, Or.inr rfl, Or.inl rfl⟩
  let P : Nat → Prop := fun q => q = w 0 ∨ q = w 1 ∨ q = w 2 ∨ q = w 3 ∨ q = w 4
  have hP : ∀ q, (q = w 2 ∨ q = w 3) → P q := fun q h => by
    rcases h with h | h
    · exact Or.inr (Or.inr (Or.inl h))
    · exact Or.inr (Or.inr (Or.inr (Or.inl h)))
  have hP4 : P (w 4) := Or.inr (Or.inr (Or.inr (Or.inr rfl)))
  -- the end of the loop
  have fin : ∀ (p q : Nat) (V' : Hv) (val' : Nat → Nat) (i : Nat) (l6 : Option Value), ((p = w 2 ∧ q = w 3) ∨ (p = w 3 ∧ q = w 2)) → CV Z V' val' → eN Z V V' → eV P val val' → val' p = Nat.gcd (val a) (val b) → zX Γ κ (Z, V') 0 0 Q 125 [some (.ref A), some (.ref a), some (.ref b), some (.ref p), some (.ref q), some (.int (nI i)), l6] [] := by
    intro p q V' val' i l6 hpq hC' hN' hE' hv
    obtain ⟨ip, iq, npq, nk, hp, hq⟩ := sw p q hpq
    refine z_aload_n F dX0_findCommon_125 rfl ?_
    refine z_getR F dX0_findCommon_126 gr_X0_25 (by assumption) (by assumption) ?_
    refine z_aload_n F dX0_findCommon_129 rfl ?_
    refine z_cVv F (C_copy hC' hJ i4 ip) dX0_findCommon_130 ml_X0_82 ok_X8_copy (kw 4 (by decide)) (by decide) rfl rfl rfl (Nat.le_of_ble_eq_true rfl) (by decide) (by decide) (fun S' hS' => ?_)
    obtain ⟨Vc, rfl, hCc, hNc⟩ := hS'
    subst hQ
    exact z_vret F dX0_findCommon_133 rfl ⟨Vc, _, rfl, hCc, hN'.trans hNc, by rw [up_self, hv], hE'.up hP4⟩
  have done : ∀ (p q : Nat) (V' : Hv) (val' : Nat → Nat) (i : Nat) (l6 : Option Value), ((p = w 2 ∧ q = w 3) ∨ (p = w 3 ∧ q = w 2)) → CV Z V' val' → eN Z V V' → eV P val val' → val' p = Nat.gcd (val a) (val b) → val' q = 0 → i < 2147483648 → zX Γ κ (Z, V') 0 0 Q 48 [some (.ref A), some (.ref a), some (.ref b), some (.ref p), some (.ref q), some (.int (nI i)), l6] [] := by
    intro p q V' val' i l6 hpq hC' hN' hE' hv hq0 hi
    obtain ⟨ip, iq, npq, nk, hp, hq⟩ := sw p q hpq
    have kq : zIn Z q 7 := iq.choose_spec.1
    refine z_iload F dX0_findCommon_48 rfl ?_
    refine z_ldc (v := 100000) F dX0_findCommon_50 cn_X0_119 ?_
    refine z_ti (show (100000 : Int32) = nI 100000 from rfl) ?_
    refine z_icmp_ge (tgt := 125) F dX0_findCommon_52 (by decide) (fun c => ?_) (fun c => ?_)
    · exact fin p q V' val' i l6 hpq hC' hN' hE' hv
    · refine z_aload F dX0_findCommon_55 rfl ?_
      refine z_cVz F (C_isZero hC' iq) dX0_findCommon_57 ml_X0_53 ok_X8_isZero kq (by decide) rfl rfl rfl (Nat.le_of_ble_eq_true rfl) (by decide) (by decide) (fun r S' hr => ?_)
      obtain ⟨rfl, rfl⟩ := hr
      refine z_if_ne (tgt := 125) F dX0_findCommon_60 (by decide) (fun c3 => ?_) (fun c3 => ?_)
      · exact fin p q V' val' i l6 hpq hC' hN' hE' hv
      · exact absurd c3 (by simp [hq0])
  have iter : ∀ (p q : Nat) (V' : Hv) (val' : Nat → Nat) (i : Nat) (l6 : Option Value), ((p = w 2 ∧ q = w 3) ∨ (p = w 3 ∧ q = w 2)) → CV Z V' val' → eN Z V V' → eV P val val' → Nat.gcd (val' p) (val' q) = Nat.gcd (val a) (val b) → 0 < val' q → val' p < 4294967296 ^ 14 → i < 100000 →
      (∀ (V2 : Hv) (val2 : Nat → Nat) (l6 : Option Value), CV Z V2 val2 → eN Z V V2 → eV P val val2 → val2 p = val' p % val' q → val2 q = val' q → zX Γ κ (Z, V2) 0 0 Q 48 [some (.ref A), some (.ref a), some (.ref b), some (.ref q), some (.ref p), some (.int (nI (i + 1))), l6] []) → zX Γ κ (Z, V') 0 0 Q 48 [some (.ref A), some (.ref a), some (.ref b), some (.ref p), some (.ref q), some (.int (nI i)), l6] [] := by
    intro p q V' val' i l6 hpq hC' hN' hE' hg hq0 hpl hi next
    obtain ⟨ip, iq, npq, nk, hp, hq⟩ := sw p q hpq
    have kp : zIn Z p 7 := ip.choose_spec.1
    have kq : zIn Z q 7 := iq.choose_spec.1
    have divi : zX Γ κ (Z, V') 0 0 Q 98 [some (.ref A), some (.ref a), some (.ref b), some (.ref p), some (.ref q), some (.int (nI i)), l6] [] := by
      refine z_aload_n F dX0_findCommon_98 rfl ?_
      refine z_aload_n F dX0_findCommon_99 rfl ?_
      refine z_aload F dX0_findCommon_100 rfl ?_
      refine z_aload_n F dX0_findCommon_102 rfl ?_
      refine z_getR F dX0_findCommon_103 gr_X0_16 (by assumption) (by assumption) ?_
      refine z_cVv F (c_divide hJ hA hC' ip iq i1 npq (nk 1 (by decide) (by decide) (by decide)).1 (nk 1 (by decide) (by decide) (by decide)).2 (nk 0 (by decide) (by decide) (by decide)).1 (nk 0 (by decide) (by decide) (by decide)).2 (nw 1 0 (by decide) (by decide) (by decide)) hpl) dX0_findCommon_106 ml_X0_124 ok_X0_divide hA0 (by decide) rfl rfl rfl (Nat.le_of_ble_eq_true rfl) (by decide) (by decide) (fun S' hS' => ?_)
      obtain ⟨V2, val2, rfl, hC2, hN2, hv1, hv3, hE2⟩ := hS'
      refine z_aload_n F dX0_findCommon_109 rfl ?_
      refine z_astore_6 F dX0_findCommon_110 rfl ?_
      refine z_aload F dX0_findCommon_112 rfl ?_
      refine z_astore_n_3 F dX0_findCommon_114 rfl ?_
      refine z_aload F dX0_findCommon_115 rfl ?_
      refine z_astore_4 F dX0_findCommon_117 rfl ?_
      refine z_iinc_5 F dX0_findCommon_119 rfl ?_
      refine z_goto (tgt := 48) F dX0_findCommon_122 (by decide) ?_
      rw [show nI i + Int32.ofInt 1 = nI (i + 1) from nI_1 i]
      refine next V2 val2 _ hC2 (hN'.trans hN2) (hE'.trans (hE2.mono (fun o h => ?_))) hv1 ?_
      · rcases h with h | h | h
        · exact Or.inl h
        · exact hP o (h ▸ hp)
        · exact Or.inr (Or.inl h)
      · refine hE2 q (fun h => ?_)
        rcases h with h | h | h
        · exact (nk 0 (by decide) (by decide) (by decide)).2 h
        · exact npq h.symm
        · exact (nk 1 (by decide) (by decide) (by decide)).2 h
    refine z_iload F dX0_findCommon_48 rfl ?_
    refine z_ldc (v := 100000) F dX0_findCommon_50 cn_X0_119 ?_
    refine z_ti (show (100000 : Int32) = nI 100000 from rfl) ?_
    refine z_icmp_ge (tgt := 125) F dX0_findCommon_52 (by decide) (fun c => ?_) (fun c => ?_)
    · have := (nI_leI (a := 100000) (b := i) (by omega) (by omega)).mp c
      omega
    · refine z_aload F dX0_findCommon_55 rfl ?_
      refine z_cVz F (C_isZero hC' iq) dX0_findCommon_57 ml_X0_53 ok_X8_isZero kq (by decide) rfl rfl rfl (Nat.le_of_ble_eq_true rfl) (by decide) (by decide) (fun r S' hr => ?_)
      obtain ⟨rfl, rfl⟩ := hr
      refine z_if_ne (tgt := 125) F dX0_findCommon_60 (by decide) (fun c3 => ?_) (fun c3 => ?_)
      · exact absurd (by simp [Nat.ne_of_gt hq0]) c3
      · refine z_aload_n F dX0_findCommon_63 rfl ?_
        refine z_cVz F (C_fitsLong hC' ip) dX0_findCommon_64 ml_X0_61 ok_X8_fitsLong kp (by decide) rfl rfl rfl (Nat.le_of_ble_eq_true rfl) (by decide) (by decide) (fun r S' hr => ?_)
        obtain ⟨rfl, rfl⟩ := hr
        refine z_if_eq (tgt := 98) F dX0_findCommon_67 (by decide) (fun c4 => ?_) (fun c4 => ?_)
        · exact divi
        · have hpf : val' p < 9223372036854775808 := by
            apply Decidable.byContradiction
            intro z
            exact c4 (by simp [z])
          refine z_aload F dX0_findCommon_70 rfl ?_
          refine z_cVz F (C_fitsLong hC' iq) dX0_findCommon_72 ml_X0_61 ok_X8_fitsLong kq (by decide) rfl rfl rfl (Nat.le_of_ble_eq_true rfl) (by decide) (by decide) (fun r S' hr => ?_)
          obtain ⟨rfl, rfl⟩ := hr
          refine z_if_eq (tgt := 98) F dX0_findCommon_75 (by decide) (fun c5 => ?_) (fun c5 => ?_)
          · exact divi
          · have hqf : val' q < 9223372036854775808 := by
              apply Decidable.byContradiction
              intro z
              exact c5 (by simp [z])
            refine z_aload_n F dX0_findCommon_78 rfl ?_
            refine z_getR F dX0_findCommon_79 gr_X0_25 (by assumption) (by assumption) ?_
            refine z_aload_n F dX0_findCommon_82 rfl ?_
            refine z_cVl F (C_toLong hC' ip) dX0_findCommon_83 ml_X0_64 ok_X8_toLong kp (by decide) rfl rfl rfl (Nat.le_of_ble_eq_true rfl) (by decide) (by decide) (fun r S' hr => ?_)
            obtain ⟨rfl, rfl⟩ := hr
            rw [Nat.mod_eq_of_lt (show val' p < 18446744073709551616 by omega)]
            refine z_aload F dX0_findCommon_86 rfl ?_
            refine z_cVl F (C_toLong hC' iq) dX0_findCommon_88 ml_X0_64 ok_X8_toLong kq (by decide) rfl rfl rfl (Nat.le_of_ble_eq_true rfl) (by decide) (by decide) (fun r S' hr => ?_)
            obtain ⟨rfl, rfl⟩ := hr
            rw [Nat.mod_eq_of_lt (show val' q < 18446744073709551616 by omega)]
            refine z_cSl F (c_commonOf hpf hqf) dX0_findCommon_91 ml_X0_120 ok_X0_commonOf rfl rfl rfl (Nat.le_of_ble_eq_true rfl) (by decide) (by decide) (fun r S' hr => ?_)
            obtain ⟨rfl, rfl⟩ := hr
            have hgl : Nat.gcd (val' p) (val' q) < 18446744073709551616 := Nat.lt_of_le_of_lt (Nat.gcd_le_right _ hq0) (by omega)
            refine z_cVv F (C_setBits hC' hJ i4 hgl) dX0_findCommon_94 ml_X0_49 ok_X8_setBits (kw 4 (by decide)) (by decide) rfl rfl rfl (Nat.le_of_ble_eq_true rfl) (by decide) (by decide) (fun S' hS' => ?_)
            obtain ⟨Vc, rfl, hCc, hNc⟩ := hS'
            subst hQ
            exact z_vret F dX0_findCommon_97 rfl ⟨Vc, _, rfl, hCc, hN'.trans hNc, by rw [up_self, hg], hE'.up hP4⟩
  have loop : ∀ (k p q : Nat) (V' : Hv) (val' : Nat → Nat) (i : Nat) (l6 : Option Value), ((p = w 2 ∧ q = w 3) ∨ (p = w 3 ∧ q = w 2)) → CV Z V' val' → eN Z V V' → eV P val val' → Nat.gcd (val' p) (val' q) = Nat.gcd (val a) (val b) → val' p < 4294967296 ^ 14 → val' q < 4294967296 ^ 14 → val' q < 2 ^ k → i + 2 * k < 100000 → zX Γ κ (Z, V') 0 0 Q 48 [some (.ref A), some (.ref a), some (.ref b), some (.ref p), some (.ref q), some (.int (nI i)), l6] [] := by
    intro k
    induction k with
    | zero =>
      intro p q V' val' i l6 hpq hC' hN' hE' hg hpl hql hqk hi
      have hq0 : val' q = 0 := by omega
      exact done p q V' val' i l6 hpq hC' hN' hE' (by rw [← hg, hq0, Nat.gcd_zero_right]) hq0 (by omega)
    | succ k ih =>
      intro p q V' val' i l6 hpq hC' hN' hE' hg hpl hql hqk hi
      rcases Nat.eq_zero_or_pos (val' q) with hq0 | hq0
      · exact done p q V' val' i l6 hpq hC' hN' hE' (by rw [← hg, hq0, Nat.gcd_zero_right]) hq0 (by omega)
      · obtain ⟨m1, m2⟩ := mod_half (a := val' p) hq0
        refine iter p q V' val' i l6 hpq hC' hN' hE' hg hq0 hpl (by omega) (fun V2 val2 l6 hC2 hN2 hE2 hv1 hv2 => ?_)
        have hqp : (q = w 2 ∧ p = w 3) ∨ (q = w 3 ∧ p = w 2) := by
          rcases hpq with ⟨h1, h2⟩ | ⟨h1, h2⟩
          · exact Or.inr ⟨h2, h1⟩
          · exact Or.inl ⟨h2, h1⟩
        have hg1 : Nat.gcd (val2 q) (val2 p) = Nat.gcd (val a) (val b) := by rw [hv1, hv2, gcd_rot, hg]
        rcases Nat.eq_zero_or_pos (val2 p) with hr0 | hr0
        · exact done q p V2 val2 (i + 1) l6 hqp hC2 hN2 hE2 (by rw [← hg1, hr0, Nat.gcd_zero_right]) hr0 (by omega)
        · refine iter q p V2 val2 (i + 1) l6 hqp hC2 hN2 hE2 hg1 hr0 (by rw [hv2]; exact hql) (by omega) (fun V3 val3 l6 hC3 hN3 hE3 hv3 hv4 => ?_)
          rw [hv1] at hr0
          have m3 := m2 hr0
          rw [Nat.pow_succ] at hqk
          have e3 : val3 q = val' q % (val' p % val' q) := by rw [hv3, hv1, hv2]
          have e4 : val3 p = val' p % val' q := by rw [hv4, hv1]
          exact ih p q V3 val3 (i + 1 + 1) l6 hpq hC3 hN3 hE3 (by rw [e3, e4, gcd_rot, gcd_rot, hg]) (by rw [e4]; omega) (by rw [e3]; omega) (by rw [e3]; omega) (by omega)
  have e23 : va_up (va_up val (w 2) (val a)) (w 3) (val b) (w 2) = val a := by rw [up_ne _ _ (nw 2 3 (by decide) (by decide) (by decide)), up_self]
  have e33 : va_up (va_up val (w 2) (val a)) (w 3) (val b) (w 3) = val b := up_self _ _ _
  refine z_iconst (v := nI 0) F dX0_findCommon_45 (by decide) ?_
  refine z_istore_5 F dX0_findCommon_46 rfl ?_
  refine loop 448 (w 2) (w 3) Vb _ 0 none (Or.inl ⟨rfl, rfl⟩) hCb (hNa.trans hNb) (((eV.refl _ _).up (hP _ (Or.inl rfl))).up (hP _ (Or.inr rfl))) (by rw [e23, e33]) (by rw [e23]; exact hxa) (by rw [e33]; exact hxb) ?_ (by decide)
  rw [e33, show (448 : Nat) = 32 * 14 from rfl, ← BB2]
  exact hxb
set_option maxRecDepth 100000 in
theorem c_haveNothingCommon {Γ : Gm} {Z : Hz} {V : Hv} {val w : Nat → Nat} {A a b : Nat} (hJ : wInj Z) (hA : aR Z A w) (hC : CV Z V val) (ha : iW Z a) (hb : iW Z b) (hb2 : b ≠ w 2) (hxa : val a < 4294967296 ^ 14) (hxb : val b < 4294967296 ^ 14) : zCt Γ mX0_haveNothingCommon 4 115 0 0 [.ref A, .ref a, .ref b] (Z, V) (pZ (fun r S' => r = decide (Nat.gcd (val a) (val b) = 1) ∧ fP Z V val w (Nat.gcd (val a) (val b)) S')) := by
  refine zCt.of [some (.ref A), some (.ref a), some (.ref b)] pn_X0_haveNothingCommon rfl (Nat.le_of_ble_eq_true rfl) rfl (fun κ F => ?_)
  obtain ⟨hA0, hAf, hAi⟩ := id hA
  obtain ⟨f4, i4⟩ := hAf 4 (by decide)
  have k4 : zIn Z (w 4) 7 := i4.choose_spec.1
  refine z_aload_n F dX0_haveNothingCommon_0 rfl ?_
  refine z_aload_n F dX0_haveNothingCommon_1 rfl ?_
  refine z_aload_n F dX0_haveNothingCommon_2 rfl ?_
  refine z_cVv F (c_findCommon hJ hA hC ha hb hb2 hxa hxb) dX0_haveNothingCommon_3 ml_X0_128 ok_X0_findCommon hA0 (by decide) rfl rfl rfl (Nat.le_of_ble_eq_true rfl) (by decide) (by decide) (fun S' hS' => ?_)
  obtain ⟨V', val', rfl, hC', hN', hv, hE⟩ := hS'
  refine z_aload_n F dX0_haveNothingCommon_6 rfl ?_
  refine z_getR F dX0_haveNothingCommon_7 gr_X0_25 (by assumption) (by assumption) ?_
  refine z_cVz F (C_isOne hC' i4) dX0_haveNothingCommon_10 ml_X0_116 ok_X8_isOne k4 (by decide) rfl rfl rfl (Nat.le_of_ble_eq_true rfl) (by decide) (by decide) (fun r S' hr => ?_)
  obtain ⟨rfl, rfl⟩ := hr
  exact z_zret F _ dX0_haveNothingCommon_13 rfl rfl ⟨by rw [hv], V', val', rfl, hC', hN', hv, hE⟩
/-- what cut leaves -/
def cP (Z : Hz) (V : Hv) (val w : Nat → Nat) (o x : Nat) : Hs → Prop := fun S' => ∃ (V' : Hv) (val' : Nat → Nat), S' = (Z, V') ∧ CV Z V' val' ∧ eN Z V V' ∧ val' o = x ∧ eV (fun q => q = w 0 ∨ q = w 5 ∨ q = o) val val'
set_option maxRecDepth 100000 in
theorem c_cut {Γ : Gm} {Z : Hz} {V : Hv} {val w : Nat → Nat} {A a o : Nat} (hJ : wInj Z) (hA : aR Z A w) (hC : CV Z V val) (ha : iW Z a) (ho : iW Z o) (h0 : o ≠ w 0) (h4 : o ≠ w 4) (h5 : o ≠ w 5) (hx : val a < 4294967296 ^ 14) : zCt Γ mX0_cut 3 89 0 0 [.ref A, .ref a, .ref o] (Z, V) (pV (cP Z V val w o (val a / val (w 4)))) := by
  refine zCt.of [some (.ref A), some (.ref a), some (.ref o)] pn_X0_cut rfl (Nat.le_of_ble_eq_true rfl) rfl (fun κ F => ?_)
  obtain ⟨hA0, hAf, hAi⟩ := id hA
  obtain ⟨f4, i4⟩ := hAf 4 (by decide)
  obtain ⟨f5, i5⟩ := hAf 5 (by decide)
  have k4 : zIn Z (w 4) 7 := i4.choose_spec.1
  have k5 : zIn Z (w 5) 7 := i5.choose_spec.1
  have ko : zIn Z o 7 := ho.choose_spec.1
  refine z_aload_n F dX0_cut_0 rfl ?_
  refine z_getR F dX0_cut_1 gr_X0_25 (by assumption) (by assumption) ?_
  refine z_cVz F (C_isOne hC i4) dX0_cut_4 ml_X0_116 ok_X8_isOne k4 (by decide) rfl rfl rfl (Nat.le_of_ble_eq_true rfl) (by decide) (by decide) (fun r S' hr => ?_)
  obtain ⟨rfl, rfl⟩ := hr
  refine z_if_eq (tgt := 16) F dX0_cut_7 (by decide) (fun c => ?_) (fun c => ?_)
  · refine z_aload_n F dX0_cut_16 rfl ?_
    refine z_getR F dX0_cut_17 gr_X0_28 (by assumption) (by assumption) ?_
    refine z_aload_n F dX0_cut_20 rfl ?_
    refine z_cVv F (C_copy hC hJ i5 ha) dX0_cut_21 ml_X0_82 ok_X8_copy k5 (by decide) rfl rfl rfl (Nat.le_of_ble_eq_true rfl) (by decide) (by decide) (fun S' hS' => ?_)
    obtain ⟨V1, rfl, hC1, hN1⟩ := hS'
    refine z_aload_n F dX0_cut_24 rfl ?_
    refine z_aload_n F dX0_cut_25 rfl ?_
    refine z_getR F dX0_cut_26 gr_X0_28 (by assumption) (by assumption) ?_
    refine z_aload_n F dX0_cut_29 rfl ?_
    refine z_getR F dX0_cut_30 gr_X0_25 (by assumption) (by assumption) ?_
    refine z_aload_n F dX0_cut_33 rfl ?_
    have e4 : va_up val (w 5) (val a) (w 4) = val (w 4) := up_ne _ _ (hA.ne (by decide) (by decide) (by decide))
    refine z_cVv F (c_divide hJ hA hC1 i5 i4 ho (hA.ne (by decide) (by decide) (by decide)) (Ne.symm h5) (Ne.symm h4) (hA.ne (by decide) (by decide) (by decide)) (hA.ne (by decide) (by decide) (by decide)) h0 (by rw [up_self]; exact hx)) dX0_cut_34 ml_X0_124 ok_X0_divide hA0 (by decide) rfl rfl rfl (Nat.le_of_ble_eq_true rfl) (by decide) (by decide) (fun S' hS' => ?_)
    obtain ⟨V2, val2, rfl, hC2, hN2, hv1, hv3, hE2⟩ := hS'
    rw [up_self, e4] at hv3
    exact z_vret F dX0_cut_37 rfl ⟨V2, val2, rfl, hC2, hN1.trans hN2, hv3, ((eV.refl _ _).up (Or.inr (Or.inl rfl))).trans hE2⟩
  · have h1 : val (w 4) = 1 := by
      apply Decidable.byContradiction
      intro z
      exact c (by simp [z])
    refine z_aload_n F dX0_cut_10 rfl ?_
    refine z_aload_n F dX0_cut_11 rfl ?_
    refine z_cVv F (C_copy hC hJ ho ha) dX0_cut_12 ml_X0_82 ok_X8_copy ko (by decide) rfl rfl rfl (Nat.le_of_ble_eq_true rfl) (by decide) (by decide) (fun S' hS' => ?_)
    obtain ⟨V1, rfl, hC1, hN1⟩ := hS'
    exact z_vret F dX0_cut_15 rfl ⟨V1, _, rfl, hC1, hN1, by rw [up_self, h1, Nat.div_one], (eV.refl _ _).up (Or.inr (Or.inr rfl))⟩
