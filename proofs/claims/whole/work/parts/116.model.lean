/-! ===== FractionRowsModel: answered, solve, holds ===== -/
theorem fcmp_0 {x y : Fr} (hx : flow x) (hy : flow y) : fcmp x y = 0 ↔ x = y := by
  obtain ⟨s, u, v⟩ := x
  obtain ⟨s', u', v'⟩ := y
  obtain ⟨hv, hc, -⟩ := hx
  obtain ⟨hv', hc', -⟩ := hy
  simp only at hv hc hv' hc'
  have key : u * v' = u' * v → u = u' ∧ v = v' := by
    intro e
    have d1 : v ∣ v' := by
      refine Nat.Coprime.dvd_of_dvd_mul_left (m := u) (Nat.Coprime.symm hc) ?_
      exact ⟨u', by rw [e, Nat.mul_comm]⟩
    have d2 : v' ∣ v := by
      refine Nat.Coprime.dvd_of_dvd_mul_left (m := u') (Nat.Coprime.symm hc') ?_
      exact ⟨u, by rw [← e, Nat.mul_comm]⟩
    have e1 : v = v' := Nat.dvd_antisymm d1 d2
    subst e1
    exact ⟨Nat.eq_of_mul_eq_mul_right hv e, rfl⟩
  unfold fcmp
  simp only
  by_cases hs : s = s'
  · subst hs
    rw [if_pos rfl]
    by_cases h1 : s = true
    · rw [if_pos h1, cmpI_eq]
      constructor
      · intro e
        obtain ⟨e1, e2⟩ := key e.symm
        rw [e1, e2]
      · intro e
        cases e
        rfl
    · rw [if_neg h1, cmpI_eq]
      constructor
      · intro e
        obtain ⟨e1, e2⟩ := key e
        rw [e1, e2]
      · intro e
        cases e
        rfl
  · rw [if_neg hs]
    constructor
    · intro e
      split at e
      · exact absurd e (by decide)
      · exact absurd e (by decide)
    · intro e
      cases e
      exact absurd rfl hs
section MOD16
variable {Γ : Gm} {Z : Hz} {V : Hv} {a : Nat → Nat} {L : Nat → Nat} {T : Nat → Fr} {f n : Nat} {M : Mx} {s : St}
/-- but for what is made on the way, and the answers, the fractions stay -/
def tA (T T' : Nat → Fr) : Prop := ∀ q, q < 100 ∨ q = 111 → T' q = T q
theorem tA.refl (T : Nat → Fr) : tA T T := fun _ _ => rfl
theorem tA.trans {T T1 T2 : Nat → Fr} (h1 : tA T T1) (h2 : tA T1 T2) : tA T T2 := fun q hq => (h2 q hq).trans (h1 q hq)
theorem tA.up {T : Nat → Fr} {q : Nat} {x : Fr} (h : 100 ≤ q ∧ q ≠ 111) : tA T (va_up T q x) := fun j hj => up_ne _ _ (by omega)
theorem tA.c {T' : Nat → Fr} (h : tA T T') (hn : n ≤ 5) (hC : mC n T M) : mC n T' M := fun p k hp hk => (h _ (by omega)).trans (hC p k hp hk)
set_option maxRecDepth 100000 in
set_option maxHeartbeats 2000000 in
theorem m_answered {many : Nat} {cc : Nat → Nat} (hR : mR Z a) (hn : 1 ≤ n ∧ n ≤ 5) (h2 : vI V 9 2 (a 0) = nI n) (hL : mL a V T L) (hC : mC n T M) (ho : mOk n M) (hmn : many ≤ n) (hcc : ∀ p, p < many → vA V (a 6) p = nI (cc p) ∧ cc p < n ∧ (M p (cc p)).2.1 ≠ 0) : zCt Γ mX10_answered 5 125 0 0 [.ref (a 0), .int (nI many)] (Z, V) (pZ (fun r S' => ∃ V' T' L', S' = (Z, V') ∧ e2A a V V' ∧ mL a V' T' L' ∧ tA T T' ∧ ((fuT M cc n many (fun _ => f0) = none ∧ r = false) ∨ ∃ U, fuT M cc n many (fun _ => f0) = some U ∧ r = true ∧ ∀ j, j < n → T' (100 + j) = U j))) := by
  refine zCt.of [some (.ref (a 0)), some (.int (nI many)), none, none, none] pn_X10_answered rfl (Nat.le_of_ble_eq_true rfl) rfl (fun κ F => ?_)
  obtain ⟨b0, b1, b2, b3, b4, b5, b6, b7, b8, b9, b10, b11⟩ := hR.1
  obtain ⟨r6, l6⟩ := hR.2.2.1 6 (by decide) (by decide)
  obtain ⟨R, hRR⟩ : ∃ R, R = fuT M cc n many (fun _ => f0) := ⟨_, rfl⟩
  rw [← hRR]
  generalize hQ : zQ Γ κ (pZ (fun r S' => ∃ V' T' L', S' = (Z, V') ∧ e2A a V V' ∧ mL a V' T' L' ∧ tA T T' ∧ ((R = none ∧ r = false) ∨ ∃ U, R = some U ∧ r = true ∧ ∀ j, j < n → T' (100 + j) = U j))) 0 0 = Q
  have piv : ∀ (t : Nat) (V1 : Hv) (T1 : Nat → Fr) (L1 : Nat → Nat) (U : Nat → Fr) (x : Int32) (l3 l4 : Option Value), t ≤ many → x + 1 = nI t → e2A a V V1 → mL a V1 T1 L1 → tA T T1 → (∀ j, j < n → T1 (100 + j) = U j ∧ fok (U j)) → fuT M cc n t U = R → zX Γ κ (Z, V1) 0 0 Q 28 [some (.ref (a 0)), some (.int (nI many)), some (.int x), l3, l4] [] := by
    intro t
    induction t with
    | zero =>
      intro V1 T1 L1 U x l3 l4 ht hx hE1 hL1 hT1 hU hsp
      have hx' : x = -1 := by
        have e : x = nI 0 - 1 := by rw [← hx, Int32.add_sub_cancel]
        rw [e]; rfl
      subst hx'
      refine z_iload_n F dX10_answered_28 rfl ?_
      refine z_if_lt (tgt := 147) F dX10_answered_29 (by decide) (fun c => ?_) (fun c => ?_)
      · subst hQ
        refine z_iconst (v := nI 1) F dX10_answered_147 (by decide) ?_
        exact z_zret F true dX10_answered_148 rfl rfl ⟨V1, T1, L1, rfl, hE1, hL1, hT1, Or.inr ⟨U, hsp.symm, rfl, fun j hj => (hU j hj).1⟩⟩
      · exact absurd (by decide) c
    | succ t ih =>
      intro V1 T1 L1 U x l3 l4 ht hx hE1 hL1 hT1 hU hsp
      have hx' : x = nI t := by
        have e : x = nI (t + 1) - 1 := by rw [← hx, Int32.add_sub_cancel]
        rw [e]; exact nI_km1 t
      subst hx'
      have htn : t < n := by omega
      obtain ⟨hc1, hc2, hc3⟩ := hcc t (by omega)
      have e2 : vI V1 9 2 (a 0) = nI n := by rw [hE1.i]; exact h2
      have clt : (nI t).toNatClampNeg = t := nI_clamp (by omega)
      have it6 := ix5 (i := t) (by omega) l6
      have v6 : vA V1 (a 6) (nI t).toNatClampNeg = nI (cc t) := by rw [clt, hE1.ar hR (by decide) (by decide)]; exact hc1
      have hC1 := hT1.c hn.2 hC
      have hfu : fuT M cc n (t + 1) U = match fuK M U t (n - (cc t + 1)) (cc t + 1) (M t n) with
        | none => none
        | some x => if wideB (fmul x (M t (cc t)) true) = true then fuT M cc n t (va_up U (cc t) (fmul x (M t (cc t)) true)) else none := rfl
      rw [hfu] at hsp
      have inner : ∀ (d k : Nat) (V3 : Hv) (T3 : Nat → Fr) (L3 : Nat → Nat) (y : Fr), k + d = n → cc t < k → e2A a V V3 → mL a V3 T3 L3 → tA T T3 → (∀ j, j < n → T3 (100 + j) = U j) → T3 108 = y → fok y → fuK M U t d k y = fuK M U t (n - (cc t + 1)) (cc t + 1) (M t n) → zX Γ κ (Z, V3) 0 0 Q 62 [some (.ref (a 0)), some (.int (nI many)), some (.int (nI t)), some (.int (nI (cc t))), some (.int (nI k))] [] := by
        intro d
        induction d with
        | zero =>
          intro k V3 T3 L3 y hk hck hE3 hL3 hT3 hU3 h108 oy hsp3
          have e2 : vI V3 9 2 (a 0) = nI n := by rw [hE3.i]; exact h2
          have hsp3' : fuK M U t (n - (cc t + 1)) (cc t + 1) (M t n) = some y := hsp3.symm
          rw [hsp3'] at hsp
          simp only at hsp
          have eT := (hT3.c hn.2 hC) t (cc t) htn (by omega)
          have oM := ho t (cc t) htn (by omega)
          refine z_iload F dX10_answered_62 rfl ?_
          refine z_aload_n F dX10_answered_64 rfl ?_
          refine z_getI F dX10_answered_65 gi_X10_44 (by assumption) ?_
          refine z_ti e2 ?_
          refine z_icmp_ge (tgt := 117) F dX10_answered_68 (by decide) (fun c2 => ?_) (fun c2 => ?_)
          · refine z_aload_n F dX10_answered_117 rfl ?_
            refine z_bipush (v := nI 108) F dX10_answered_118 (by decide) ?_
            refine z_bipush (v := nI 70) F dX10_answered_120 (by decide) ?_
            refine z_bipush (v := nI 6) F dX10_answered_122 (by decide) ?_
            refine z_iload_n F dX10_answered_124 rfl ?_
            refine z_imul F dX10_answered_125 ?_
            refine z_ti (pk_mul 6 t) ?_
            refine z_iadd F dX10_answered_126 ?_
            refine z_ti (nI_add 70 _) ?_
            refine z_iload_n F dX10_answered_127 rfl ?_
            refine z_iadd F dX10_answered_128 ?_
            refine z_ti (nI_add _ _) ?_
            refine z_bipush (v := nI 100) F dX10_answered_129 (by decide) ?_
            refine z_iload_n F dX10_answered_131 rfl ?_
            refine z_iadd F dX10_answered_132 ?_
            refine z_ti (nI_add 100 _) ?_
            refine z_cVz F (m_ratio (x := 108) (y := 70 + 6 * t + cc t) (c := 100 + cc t) hR hL3 (by decide) (by omega) (by omega) (by rw [h108]; exact oy.2) (by rw [eT]; exact oM.2) (by rw [h108]; exact Nat.ne_of_gt oy.1.1) (by rw [eT]; exact hc3)) dX10_answered_133 ml_X10_147 ok_X10_ratio b0 (by decide) rfl rfl rfl (Nat.le_of_ble_eq_true rfl) (by decide) (by decide) (fun r S' hr => ?_)
            rw [h108, eT] at hr
            obtain ⟨rfl, V4, L4, rfl, hE4, hL4⟩ := hr
            obtain ⟨z, hz⟩ : ∃ z, z = fmul y (M t (cc t)) true := ⟨_, rfl⟩
            rw [← hz] at hsp hL4 ⊢
            have hT4 := hT3.trans (tA.up (T := T3) (q := 100 + cc t) (x := z) (by omega))
            refine z_if_ne (tgt := 141) F dX10_answered_136 (by decide) (fun c3 => ?_) (fun c3 => ?_)
            · have hw := zb_t c3
              rw [if_pos hw] at hsp
              have oz : fok z := by rw [hz] at hw ⊢; exact fmul_ok oy oM (fun _ => hc3) hw
              refine z_iinc_2 F dX10_answered_141 rfl ?_
              refine z_goto (tgt := 28) F dX10_answered_144 (by decide) ?_
              refine ih V4 _ L4 (va_up U (cc t) z) _ _ _ (by omega) ?_ (hE3.trans hE4) hL4 hT4 (fun j hj => ?_) hsp
              · rw [nI_m1, show (1 : Int32) = nI 1 from rfl, Int32.sub_add_cancel]
              · by_cases e : j = cc t
                · rw [e, up_self, up_self]; exact ⟨rfl, oz⟩
                · rw [up_ne _ _ (by omega), up_ne _ _ e]; exact ⟨hU3 j hj, (hU j hj).2⟩
            · have hw := zb_f c3
              rw [if_neg hw] at hsp
              subst hQ
              refine z_iconst (v := nI 0) F dX10_answered_139 (by decide) ?_
              exact z_zret F false dX10_answered_140 rfl rfl ⟨V4, _, L4, rfl, hE3.trans hE4, hL4, hT4, Or.inl ⟨hsp.symm, rfl⟩⟩
          · exact absurd (nI_le (by omega) (by omega)) c2
        | succ d ih2 =>
          intro k V3 T3 L3 y hk hck hE3 hL3 hT3 hU3 h108 oy hsp3
          have e2 : vI V3 9 2 (a 0) = nI n := by rw [hE3.i]; exact h2
          have hfk : fuK M U t (d + 1) k y = if wideB (fmul (M t k) (U k) false) = true then (if wideB (fadd y (fmul (M t k) (U k) false) true) = true then fuK M U t d (k + 1) (fadd y (fmul (M t k) (U k) false) true) else none) else none := rfl
          rw [hfk] at hsp3
          have kn : fuK M U t (n - (cc t + 1)) (cc t + 1) (M t n) = none → ∀ V4 T4 L4, e2A a V V4 → mL a V4 T4 L4 → tA T T4 → zX Γ κ (Z, V4) 0 0 Q 109 [some (.ref (a 0)), some (.int (nI many)), some (.int (nI t)), some (.int (nI (cc t))), some (.int (nI k))] [] := by
            intro hk V4 T4 L4 hE4 hL4 hT4
            rw [hk] at hsp
            subst hQ
            refine z_iconst (v := nI 0) F dX10_answered_109 (by decide) ?_
            exact z_zret F false dX10_answered_110 rfl rfl ⟨V4, T4, L4, rfl, hE4, hL4, hT4, Or.inl ⟨hsp.symm, rfl⟩⟩
          have eT := (hT3.c hn.2 hC) t k htn (by omega)
          have oM := ho t k htn (by omega)
          have oU := (hU k (by omega)).2
          have eU := hU3 k (by omega)
          obtain ⟨p, hp⟩ : ∃ p, p = fmul (M t k) (U k) false := ⟨_, rfl⟩
          rw [← hp] at hsp3
          refine z_iload F dX10_answered_62 rfl ?_
          refine z_aload_n F dX10_answered_64 rfl ?_
          refine z_getI F dX10_answered_65 gi_X10_44 (by assumption) ?_
          refine z_ti e2 ?_
          refine z_icmp_ge (tgt := 117) F dX10_answered_68 (by decide) (fun c2 => ?_) (fun c2 => ?_)
          · exact absurd ((nI_leI (by omega) (by omega)).mp c2) (by omega)
          · refine z_aload_n F dX10_answered_71 rfl ?_
            refine z_bipush (v := nI 70) F dX10_answered_72 (by decide) ?_
            refine z_bipush (v := nI 6) F dX10_answered_74 (by decide) ?_
            refine z_iload_n F dX10_answered_76 rfl ?_
            refine z_imul F dX10_answered_77 ?_
            refine z_ti (pk_mul 6 t) ?_
            refine z_iadd F dX10_answered_78 ?_
            refine z_ti (nI_add 70 _) ?_
            refine z_iload F dX10_answered_79 rfl ?_
            refine z_iadd F dX10_answered_81 ?_
            refine z_ti (nI_add _ _) ?_
            refine z_bipush (v := nI 100) F dX10_answered_82 (by decide) ?_
            refine z_iload F dX10_answered_84 rfl ?_
            refine z_iadd F dX10_answered_86 ?_
            refine z_ti (nI_add 100 _) ?_
            refine z_bipush (v := nI 107) F dX10_answered_87 (by decide) ?_
            refine z_cVz F (m_product (x := 70 + 6 * t + k) (y := 100 + k) (c := 107) hR hL3 (by omega) (by omega) (by decide) (by rw [eT]; exact oM.2) (by rw [eU]; exact oU.2) (by rw [eT]; exact Nat.ne_of_gt oM.1.1) (by rw [eU]; exact Nat.ne_of_gt oU.1.1)) dX10_answered_89 ml_X10_144 ok_X10_product b0 (by decide) rfl rfl rfl (Nat.le_of_ble_eq_true rfl) (by decide) (by decide) (fun r S' hr => ?_)
            rw [eT, eU, ← hp] at hr
            obtain ⟨rfl, V4, L4, rfl, hE4, hL4⟩ := hr
            have hT4 := hT3.trans (tA.up (T := T3) (q := 107) (x := p) (by omega))
            have z107 : va_up T3 107 p 107 = p := up_self _ _ _
            have z108 : va_up T3 107 p 108 = y := by rw [up_ne _ _ (by decide)]; exact h108
            have zU : ∀ j, j < n → va_up T3 107 p (100 + j) = U j := fun j hj => by rw [up_ne _ _ (by omega)]; exact hU3 j hj
            generalize va_up T3 107 p = T4 at hL4 hT4 z107 z108 zU
            have hE34 := hE3.trans hE4
            refine z_if_eq (tgt := 109) F dX10_answered_92 (by decide) (fun c3 => ?_) (fun c3 => ?_)
            · have hw := zb_f c3
              rw [if_neg hw] at hsp3
              exact kn hsp3.symm V4 T4 L4 hE34 hL4 hT4
            · have hw := zb_t c3
              rw [if_pos hw] at hsp3
              have op : fok p := by rw [hp] at hw ⊢; exact fmul_ok oM oU (fun z => by cases z) hw
              obtain ⟨z, hz⟩ : ∃ z, z = fadd y p true := ⟨_, rfl⟩
              rw [← hz] at hsp3
              refine z_aload_n F dX10_answered_95 rfl ?_
              refine z_bipush (v := nI 108) F dX10_answered_96 (by decide) ?_
              refine z_bipush (v := nI 107) F dX10_answered_98 (by decide) ?_
              refine z_bipush (v := nI 108) F dX10_answered_100 (by decide) ?_
              refine z_iconst (v := nI 1) F dX10_answered_102 (by decide) ?_
              refine z_cVz F (m_total (x := 108) (y := 107) (c := 108) true hR hL4 (by decide) (by decide) (by decide) (by rw [z108]; exact oy.2) (by rw [z107]; exact op.2) (by rw [z108]; exact Nat.ne_of_gt oy.1.1) (by rw [z107]; exact Nat.ne_of_gt op.1.1)) dX10_answered_103 ml_X10_140 ok_X10_total b0 (by decide) rfl rfl rfl (Nat.le_of_ble_eq_true rfl) (by decide) (by decide) (fun r S' hr => ?_)
              rw [z107, z108, ← hz] at hr
              obtain ⟨rfl, V5, L5, rfl, hE5, hL5⟩ := hr
              have hT5 := hT4.trans (tA.up (T := T4) (q := 108) (x := z) (by omega))
              refine z_if_ne (tgt := 111) F dX10_answered_106 (by decide) (fun c4 => ?_) (fun c4 => ?_)
              · have hw2 := zb_t c4
                rw [if_pos hw2] at hsp3
                have oz : fok z := by rw [hz] at hw2 ⊢; exact fadd_ok oy op hw2
                refine z_iinc_4 F dX10_answered_111 rfl ?_
                refine z_goto (tgt := 62) F dX10_answered_114 (by decide) ?_
                rw [show nI k + Int32.ofInt 1 = nI (k + 1) from nI_1 k]
                exact ih2 (k + 1) V5 _ L5 z (by omega) (by omega) (hE34.trans hE5) hL5 hT5 (fun j hj => by rw [up_ne _ _ (by omega)]; exact zU j hj) (up_self _ _ _) oz hsp3
              · have hw2 := zb_f c4
                rw [if_neg hw2] at hsp3
                exact kn hsp3.symm V5 _ L5 (hE34.trans hE5) hL5 hT5
      refine z_iload_n F dX10_answered_28 rfl ?_
      refine z_if_lt (tgt := 147) F dX10_answered_29 (by decide) (fun c => ?_) (fun c => ?_)
      · exact absurd c (nI_pos (by omega))
      · refine z_aload_n F dX10_answered_32 rfl ?_
        refine z_getR F dX10_answered_33 gr_X10_26 (by assumption) (by assumption) ?_
        refine z_iload_n F dX10_answered_36 rfl ?_
        refine z_iald F dX10_answered_37 (by assumption) (by assumption) ?_
        refine z_ti v6 ?_
        refine z_istore_n_3 F dX10_answered_38 rfl ?_
        refine z_aload_n F dX10_answered_39 rfl ?_
        refine z_bipush (v := nI 70) F dX10_answered_40 (by decide) ?_
        refine z_bipush (v := nI 6) F dX10_answered_42 (by decide) ?_
        refine z_iload_n F dX10_answered_44 rfl ?_
        refine z_imul F dX10_answered_45 ?_
        refine z_ti (pk_mul 6 t) ?_
        refine z_iadd F dX10_answered_46 ?_
        refine z_ti (nI_add 70 _) ?_
        refine z_aload_n F dX10_answered_47 rfl ?_
        refine z_getI F dX10_answered_48 gi_X10_44 (by assumption) ?_
        refine z_ti e2 ?_
        refine z_iadd F dX10_answered_51 ?_
        refine z_ti (nI_add _ _) ?_
        refine z_bipush (v := nI 108) F dX10_answered_52 (by decide) ?_
        refine z_cVv F (m_same (f := 70 + 6 * t + n) (g := 108) hR hL1 (by omega) (by decide)) dX10_answered_54 ml_X10_126 ok_X10_same b0 (by decide) rfl rfl rfl (Nat.le_of_ble_eq_true rfl) (by decide) (by decide) (fun S' hS' => ?_)
        obtain ⟨V2, L2, rfl, hE2, hL2⟩ := hS'
        rw [hC1 t n htn (Nat.le_refl n)] at hL2
        refine z_iload_n F dX10_answered_57 rfl ?_
        refine z_iconst (v := nI 1) F dX10_answered_58 (by decide) ?_
        refine z_iadd F dX10_answered_59 ?_
        refine z_ti (nI_add _ 1) ?_
        refine z_istore_4 F dX10_answered_60 rfl ?_
        exact inner (n - (cc t + 1)) (cc t + 1) V2 _ L2 (M t n) (by omega) (by omega) (hE1.trans hE2) hL2 (hT1.trans (tA.up (by omega))) (fun j hj => by rw [up_ne _ _ (by omega)]; exact (hU j hj).1) (up_self _ _ _) (ho t n htn (Nat.le_refl n)) rfl
  have zer : ∀ (d j : Nat) (V1 : Hv) (T1 : Nat → Fr) (L1 : Nat → Nat), j + d = n → e2A a V V1 → mL a V1 T1 L1 → tA T T1 → (∀ k, k < j → T1 (100 + k) = f0) → zX Γ κ (Z, V1) 0 0 Q 2 [some (.ref (a 0)), some (.int (nI many)), some (.int (nI j)), none, none] [] := by
    intro d
    induction d with
    | zero =>
      intro j V1 T1 L1 hj hE1 hL1 hT1 hz
      have e2 : vI V1 9 2 (a 0) = nI n := by rw [hE1.i]; exact h2
      refine z_iload_n F dX10_answered_2 rfl ?_
      refine z_aload_n F dX10_answered_3 rfl ?_
      refine z_getI F dX10_answered_4 gi_X10_44 (by assumption) ?_
      refine z_ti e2 ?_
      refine z_icmp_ge (tgt := 24) F dX10_answered_7 (by decide) (fun c => ?_) (fun c => ?_)
      · refine z_iload_n F dX10_answered_24 rfl ?_
        refine z_iconst (v := nI 1) F dX10_answered_25 (by decide) ?_
        refine z_isub F dX10_answered_26 ?_
        refine z_istore_n_2 F dX10_answered_27 rfl ?_
        exact piv many V1 T1 L1 (fun _ => f0) _ none none (Nat.le_refl _) (by rw [show (1 : Int32) = nI 1 from rfl, Int32.sub_add_cancel]) hE1 hL1 hT1 (fun j hj => ⟨hz j (by omega), f0_ok⟩) hRR.symm
      · exact absurd (nI_le (by omega) (by omega)) c
    | succ d ih =>
      intro j V1 T1 L1 hj hE1 hL1 hT1 hz
      have e2 : vI V1 9 2 (a 0) = nI n := by rw [hE1.i]; exact h2
      refine z_iload_n F dX10_answered_2 rfl ?_
      refine z_aload_n F dX10_answered_3 rfl ?_
      refine z_getI F dX10_answered_4 gi_X10_44 (by assumption) ?_
      refine z_ti e2 ?_
      refine z_icmp_ge (tgt := 24) F dX10_answered_7 (by decide) (fun c => ?_) (fun c => ?_)
      · exact absurd ((nI_leI (by omega) (by omega)).mp c) (by omega)
      · refine z_aload_n F dX10_answered_10 rfl ?_
        refine z_bipush (v := nI 100) F dX10_answered_11 (by decide) ?_
        refine z_iload_n F dX10_answered_13 rfl ?_
        refine z_iadd F dX10_answered_14 ?_
        refine z_ti (nI_add 100 _) ?_
        refine z_cVv F (m_nothing (f := 100 + j) hR hL1 (by omega)) dX10_answered_15 ml_X10_48 ok_X10_nothing b0 (by decide) rfl rfl rfl (Nat.le_of_ble_eq_true rfl) (by decide) (by decide) (fun S' hS' => ?_)
        obtain ⟨V2, L2, rfl, hE2, hL2⟩ := hS'
        refine z_iinc_2 F dX10_answered_18 rfl ?_
        refine z_goto (tgt := 2) F dX10_answered_21 (by decide) ?_
        rw [show nI j + Int32.ofInt 1 = nI (j + 1) from nI_1 j]
        refine ih (j + 1) V2 _ L2 (by omega) (hE1.trans hE2) hL2 (hT1.trans (tA.up (by omega))) (fun k hk => ?_)
        by_cases e : k = j
        · rw [e, up_self]
        · rw [up_ne _ _ (by omega)]; exact hz k (by omega)
  refine z_iconst (v := nI 0) F dX10_answered_0 (by decide) ?_
  refine z_istore_n_2 F dX10_answered_1 rfl ?_
  exact zer n 0 V T L (by omega) (eG.refl V) hL (tA.refl T) (fun k hk => absurd hk (Nat.not_lt_zero k))
end MOD16
