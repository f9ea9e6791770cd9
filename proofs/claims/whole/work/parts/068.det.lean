/-! ===== Determinants: goOn, addOrder, addOrders ===== -/
section DET3
variable {Γ : Gm} {Z : Hz} {V : Hv} {T : Nat → Fr} {X : Nat → Nat} {uo vo w ee : Nat → Nat} {n A D oa pr q re : Nat} {o : Nat → Nat} {M : Mx}
set_option maxRecDepth 100000 in
set_option maxHeartbeats 1000000 in
theorem c_goOn (hK : KS Z uo vo w V T X) (hD : dR Z D n A oa pr) (hn0 : vI V 1 0 D = nI n) (hO : oO V n oa o) : zCt Γ mX1_goOn 1 23 0 0 [.ref D] (Z, V) (pZ (fun r S' => ∃ V', S' = (Z, V') ∧ KS Z uo vo w V' T X ∧ gT Z oa V V' ∧ ((nxt n o = none ∧ r = false) ∨ ∃ o', nxt n o = some o' ∧ r = true ∧ oO V' n oa o'))) := by
  refine zCt.of [some (.ref D), none, none, none, none] pn_X1_goOn rfl (Nat.le_of_ble_eq_true rfl) rfl (fun κ F => ?_)
  obtain ⟨⟨b0, b1, b2, b3⟩, ⟨d1, d2, d3⟩, hoa, n1, n5⟩ := id hD
  generalize hQ : zQ Γ κ (pZ (fun r S' => ∃ V', S' = (Z, V') ∧ KS Z uo vo w V' T X ∧ gT Z oa V V' ∧ ((nxt n o = none ∧ r = false) ∨ ∃ o', nxt n o = some o' ∧ r = true ∧ oO V' n oa o'))) 0 0 = Q
  have ai : ∀ i, i < n → vp_in (nI i) (zn Z oa) ∧ vA V oa (nI i).toNatClampNeg = nI (o i) := fun i hi => ⟨by rw [d2]; exact vp_in_nI hi (by omega), by rw [nI_clamp (by omega)]; exact (hO i hi).1⟩
  -- what is behind is turned round
  have turn : ∀ (i k d l h : Nat) (V1 : Hv) (o1 : Nat → Nat), h < n → l ≤ n → KS Z uo vo w V1 T X → gT Z oa V V1 → oO V1 n oa o1 → h ≤ d + l → nxt n o = some (rvs d l h o1) → zX Γ κ (Z, V1) 0 0 Q 93 [some (.ref D), some (.int (nI i)), some (.int (nI k)), some (.int (nI l)), some (.int (nI h))] [] := by
    intro i k d
    induction d with
    | zero =>
      intro l h V1 o1 hh hln hK1 hG1 hO1 hlh hsp
      refine z_iload_n F dX1_goOn_93 rfl ?_
      refine z_iload F dX1_goOn_94 rfl ?_
      refine z_icmp_ge (tgt := 115) F dX1_goOn_96 (by decide) (fun c => ?_) (fun c => ?_)
      · subst hQ
        refine z_iconst (v := nI 1) F dX1_goOn_115 (by decide) ?_
        exact z_zret F true dX1_goOn_116 rfl rfl ⟨V1, rfl, hK1, hG1, Or.inr ⟨_, hsp, rfl, hO1⟩⟩
      · exact absurd (nI_le (by omega) (by omega)) c
    | succ d ih =>
      intro l h V1 o1 hh hln hK1 hG1 hO1 hlh hsp
      simp only [rvs] at hsp
      refine z_iload_n F dX1_goOn_93 rfl ?_
      refine z_iload F dX1_goOn_94 rfl ?_
      refine z_icmp_ge (tgt := 115) F dX1_goOn_96 (by decide) (fun c => ?_) (fun c => ?_)
      · have hge : ¬ l < h := by
          intro z
          have := (nI_leI (a := h) (b := l) (by omega) (by omega)).mp c
          omega
        rw [if_neg hge] at hsp
        subst hQ
        refine z_iconst (v := nI 1) F dX1_goOn_115 (by decide) ?_
        exact z_zret F true dX1_goOn_116 rfl rfl ⟨V1, rfl, hK1, hG1, Or.inr ⟨_, hsp, rfl, hO1⟩⟩
      · have hlt : l < h := by
          rcases Nat.lt_or_ge l h with z | z
          · exact z
          · exact absurd (nI_le z (by omega)) c
        rw [if_pos hlt] at hsp
        refine z_aload_n F dX1_goOn_99 rfl ?_
        refine z_iload_n F dX1_goOn_100 rfl ?_
        refine z_iload F dX1_goOn_101 rfl ?_
        refine z_cVv F (c_swap hK1 hD hO1 (by omega) hh) dX1_goOn_103 ml_X1_82 ok_X1_swap b0 (by decide) rfl rfl rfl (Nat.le_of_ble_eq_true rfl) (by decide) (by decide) (fun S' hS' => ?_)
        obtain ⟨V2, rfl, hK2, hG2, hO2⟩ := hS'
        obtain ⟨h', rfl⟩ : ∃ h', h = h' + 1 := ⟨h - 1, by omega⟩
        refine z_iinc_3 F dX1_goOn_106 rfl ?_
        refine z_iinc_4 F dX1_goOn_109 rfl ?_
        refine z_goto (tgt := 93) F dX1_goOn_112 (by decide) ?_
        rw [show nI l + Int32.ofInt 1 = nI (l + 1) from nI_1 l, nI_m1, nI_km1]
        exact ih (l + 1) h' V2 _ (by omega) (by omega) hK2 (hG1.trans hG2) hO2 (by omega) hsp
  -- what is swapped
  have seek : ∀ (i : Nat) (k : Nat), i < k → k < n → nxt n o = some (rvs n (i + 1) (n - 1) (swp o i (fk o i k))) → zX Γ κ (Z, V) 0 0 Q 47 [some (.ref D), some (.int (nI i)), some (.int (nI k)), none, none] [] := by
    intro i k
    induction k with
    | zero => intro h; omega
    | succ k ih =>
      intro hik hkn hsp
      have hin : i < n := by omega
      simp only [fk] at hsp
      have stop : ¬ (i + 1 < k + 1 ∧ o (k + 1) < o i) → zX Γ κ (Z, V) 0 0 Q 75 [some (.ref D), some (.int (nI i)), some (.int (nI (k + 1))), none, none] [] := by
        intro hno
        rw [if_neg hno] at hsp
        refine z_aload_n F dX1_goOn_75 rfl ?_
        refine z_iload_n F dX1_goOn_76 rfl ?_
        refine z_iload_n F dX1_goOn_77 rfl ?_
        refine z_cVv F (c_swap hK hD hO hin hkn) dX1_goOn_78 ml_X1_82 ok_X1_swap b0 (by decide) rfl rfl rfl (Nat.le_of_ble_eq_true rfl) (by decide) (by decide) (fun S' hS' => ?_)
        obtain ⟨V2, rfl, hK2, hG2, hO2⟩ := hS'
        have hn2 := gT.n1 hG2 hn0
        refine z_iload_n F dX1_goOn_81 rfl ?_
        refine z_iconst (v := nI 1) F dX1_goOn_82 (by decide) ?_
        refine z_iadd F dX1_goOn_83 ?_
        refine z_ti (nI_add i 1) ?_
        refine z_istore_n_3 F dX1_goOn_84 rfl ?_
        refine z_aload_n F dX1_goOn_85 rfl ?_
        refine z_getI F dX1_goOn_86 gi_X1_16 (by assumption) ?_
        refine z_ti hn2 ?_
        refine z_iconst (v := nI 1) F dX1_goOn_89 (by decide) ?_
        refine z_isub F dX1_goOn_90 ?_
        refine z_ti (pk_sub n1) ?_
        refine z_istore_4 F dX1_goOn_91 rfl ?_
        exact turn i (k + 1) n (i + 1) (n - 1) V2 _ (by omega) (by omega) hK2 hG2 hO2 (by omega) hsp
      refine z_iload_n F dX1_goOn_47 rfl ?_
      refine z_iload_n F dX1_goOn_48 rfl ?_
      refine z_iconst (v := nI 1) F dX1_goOn_49 (by decide) ?_
      refine z_iadd F dX1_goOn_50 ?_
      refine z_ti (nI_add i 1) ?_
      refine z_icmp_le (tgt := 75) F dX1_goOn_51 (by decide) (fun c => ?_) (fun c => ?_)
      · exact stop (fun z => by have := (nI_leI (by omega) (by omega)).mp c; omega)
      · have h1 : i + 1 < k + 1 := by
          rcases Nat.lt_or_ge (i + 1) (k + 1) with z | z
          · exact z
          · exact absurd (nI_le z (by omega)) c
        have hok := (hO (k + 1) hkn).2
        have hoi := (hO i hin).2
        refine z_aload_n F dX1_goOn_54 rfl ?_
        refine z_getR F dX1_goOn_55 gr_X1_24 (by assumption) (by assumption) ?_
        refine z_iload_n F dX1_goOn_58 rfl ?_
        refine z_iald F dX1_goOn_59 (by assumption) (ai (k + 1) hkn).1 ?_
        refine z_ti (ai (k + 1) hkn).2 ?_
        refine z_aload_n F dX1_goOn_60 rfl ?_
        refine z_getR F dX1_goOn_61 gr_X1_24 (by assumption) (by assumption) ?_
        refine z_iload_n F dX1_goOn_64 rfl ?_
        refine z_iald F dX1_goOn_65 (by assumption) (ai i hin).1 ?_
        refine z_ti (ai i hin).2 ?_
        refine z_icmp_ge (tgt := 75) F dX1_goOn_66 (by decide) (fun c2 => ?_) (fun c2 => ?_)
        · exact stop (fun z => by have := (nI_leI (by omega) (by omega)).mp c2; omega)
        · have h2 : o (k + 1) < o i := by
            rcases Nat.lt_or_ge (o (k + 1)) (o i) with z | z
            · exact z
            · exact absurd (nI_le z (by omega)) c2
          rw [if_pos ⟨h1, h2⟩] at hsp
          refine z_iinc_2 F dX1_goOn_69 rfl ?_
          refine z_goto (tgt := 47) F dX1_goOn_72 (by decide) ?_
          rw [nI_m1, nI_km1]
          exact ih (by omega) (by omega) hsp
  -- where it rises last
  have rise : ∀ (m : Nat) (x : Int32), m < n → x + nI 1 = nI m → dsc o m = dsc o (n - 1) → zX Γ κ (Z, V) 0 0 Q 7 [some (.ref D), some (.int x), none, none, none] [] := by
    intro m
    induction m with
    | zero =>
      intro x hm hx hsp
      have hx1 : x = Int32.ofInt (-1) := by
        have h9 : x + nI 1 + Int32.ofInt (-1) = nI 0 + Int32.ofInt (-1) := by rw [hx]
        rw [Int32.add_assoc, show nI 1 + Int32.ofInt (-1) = 0 by decide, Int32.add_zero] at h9
        rw [h9]; decide
      subst hx1
      have hno : nxt n o = none := by unfold nxt; rw [← hsp]; rfl
      refine z_iload_n F dX1_goOn_7 rfl ?_
      refine z_if_lt (tgt := 34) F dX1_goOn_8 (by decide) (fun c => ?_) (fun c => ?_)
      · refine z_iload_n F dX1_goOn_34 rfl ?_
        refine z_if_ge (tgt := 40) F dX1_goOn_35 (by decide) (fun c2 => ?_) (fun c2 => ?_)
        · exact absurd c2 (by decide)
        · subst hQ
          refine z_iconst (v := nI 0) F dX1_goOn_38 (by decide) ?_
          exact z_zret F false dX1_goOn_39 rfl rfl ⟨V, rfl, hK, eG.refl V, Or.inl ⟨hno, rfl⟩⟩
      · exact absurd (show Int32.ofInt (-1) < 0 by decide) c
    | succ m ih =>
      intro x hm hx hsp
      have hx1 : x = nI m := by
        have h9 : x + nI 1 + Int32.ofInt (-1) = nI (m + 1) + Int32.ofInt (-1) := by rw [hx]
        rw [Int32.add_assoc, show nI 1 + Int32.ofInt (-1) = 0 by decide, Int32.add_zero, nI_m1, nI_km1] at h9
        exact h9
      subst hx1
      have hmn : m < n := by omega
      have ho1 := (hO m hmn).2
      have ho2 := (hO (m + 1) hm).2
      simp only [dsc] at hsp
      refine z_iload_n F dX1_goOn_7 rfl ?_
      refine z_if_lt (tgt := 34) F dX1_goOn_8 (by decide) (fun c => ?_) (fun c => ?_)
      · exact absurd c (nI_lt0 (by omega))
      · refine z_aload_n F dX1_goOn_11 rfl ?_
        refine z_getR F dX1_goOn_12 gr_X1_24 (by assumption) (by assumption) ?_
        refine z_iload_n F dX1_goOn_15 rfl ?_
        refine z_iald F dX1_goOn_16 (by assumption) (ai m hmn).1 ?_
        refine z_ti (ai m hmn).2 ?_
        refine z_aload_n F dX1_goOn_17 rfl ?_
        refine z_getR F dX1_goOn_18 gr_X1_24 (by assumption) (by assumption) ?_
        refine z_iload_n F dX1_goOn_21 rfl ?_
        refine z_iconst (v := nI 1) F dX1_goOn_22 (by decide) ?_
        refine z_iadd F dX1_goOn_23 ?_
        refine z_ti (nI_add m 1) ?_
        refine z_iald F dX1_goOn_24 (by assumption) (ai (m + 1) hm).1 ?_
        refine z_ti (ai (m + 1) hm).2 ?_
        refine z_icmp_le (tgt := 34) F dX1_goOn_25 (by decide) (fun c2 => ?_) (fun c2 => ?_)
        · have h2 := (nI_leI (by omega) (by omega)).mp c2
          rw [if_neg (by omega)] at hsp
          have hnx : nxt n o = some (rvs n (m + 1) (n - 1) (swp o m (fk o m (n - 1)))) := by unfold nxt; rw [← hsp]
          refine z_iload_n F dX1_goOn_34 rfl ?_
          refine z_if_ge (tgt := 40) F dX1_goOn_35 (by decide) (fun c3 => ?_) (fun c3 => ?_)
          · refine z_aload_n F dX1_goOn_40 rfl ?_
            refine z_getI F dX1_goOn_41 gi_X1_16 (by assumption) ?_
            refine z_ti hn0 ?_
            refine z_iconst (v := nI 1) F dX1_goOn_44 (by decide) ?_
            refine z_isub F dX1_goOn_45 ?_
            refine z_ti (pk_sub n1) ?_
            refine z_istore_n_2 F dX1_goOn_46 rfl ?_
            exact seek m (n - 1) (by omega) (by omega) hnx
          · exact absurd (show (0 : Int32) ≤ nI m from nI_le (a := 0) (b := m) (by omega) (by omega)) c3
        · have h2 : o (m + 1) < o m := by
            rcases Nat.lt_or_ge (o (m + 1)) (o m) with z | z
            · exact z
            · exact absurd (nI_le z (by omega)) c2
          rw [if_pos h2] at hsp
          refine z_iinc_1 F dX1_goOn_28 rfl ?_
          refine z_goto (tgt := 7) F dX1_goOn_31 (by decide) ?_
          exact ih _ (by omega) (by rw [Int32.add_assoc, show Int32.ofInt (-1) + nI 1 = 0 by decide, Int32.add_zero]) hsp
  refine z_aload_n F dX1_goOn_0 rfl ?_
  refine z_getI F dX1_goOn_1 gi_X1_16 (by assumption) ?_
  refine z_ti hn0 ?_
  refine z_iconst (v := nI 2) F dX1_goOn_4 (by decide) ?_
  refine z_isub F dX1_goOn_5 ?_
  refine z_istore_n_1 F dX1_goOn_6 rfl ?_
  refine rise (n - 1) _ (by omega) ?_ rfl
  obtain ⟨m, rfl⟩ : ∃ m, n = m + 1 := ⟨n - 1, by omega⟩
  rw [← nI_add m 1, Int32.sub_eq_add_neg, Int32.add_assoc, Int32.add_assoc, show nI 1 + (-nI 2 + nI 1) = 0 by decide, Int32.add_zero]
  rfl
end DET3
