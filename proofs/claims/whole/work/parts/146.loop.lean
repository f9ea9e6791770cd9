/-! ===== the law: its loop ===== -/
section LOOP
variable {Γ : Gm} {κ : Cx} {Z : Hz} {G : Ga} {V : Hv} {a : Nat → Nat} {oa b N i0 cs sl : Nat} {xs : Nat → Int32} {s : St} {Q : State → Prop}
theorem lw_gt {i N : Nat} (hN : N ≤ 3585) (hi : i ≤ N + 7) (c : ¬ nI N - nI 7 < nI i) : i + 6 < N := by
  have h1 := mt Int32.lt_iff_toInt_lt.mpr c
  rw [pk_sub_toInt (by omega) (by decide), nI_toInt (by omega)] at h1
  omega
set_option maxRecDepth 100000 in
theorem w_head (C : LwC Γ κ Z G a oa b N xs) (hN : N ≤ 3585) (hi : i0 ≤ N + 7) (hc : cs ≤ 601024 ∧ sl ≤ 7293000) (fin : zX Γ κ (Z, V) 601024 7293000 Q 1171 (lwV b G.x (a 0) oa i0) []) (go : i0 + 6 < N → zX Γ κ (Z, V) cs sl Q 43 (lwV b G.x (a 0) oa i0) []) : zX Γ κ (Z, V) cs sl Q 33 (lwV b G.x (a 0) oa i0) [] := by
  obtain ⟨F, TH, hSc, hR, hM, hAp, ho, hn⟩ := C
  refine z_iload F dL_law_33 rfl ?_
  refine z_aload_n F dL_law_35 rfl ?_
  refine z_slen F hSc dL_law_36 ?_
  refine z_bipush (v := nI 7) F dL_law_37 (by decide) ?_
  refine z_isub F dL_law_39 ?_
  refine z_icmp_gt (tgt := 1171) F dL_law_40 (by decide) (fun c => ?_) (fun c => ?_)
  · exact zX_widen hc.1 hc.2 fin
  · exact go (lw_gt hN hi c)
set_option maxRecDepth 100000 in
theorem w_body (hPr : prOk) (C : LwC Γ κ Z G a oa b N xs) (I : LwI Z G a V s) (hi : i0 + 6 < N) (hN : N ≤ 3585) (hc : cs + 1 ≤ 601024 ∧ sl + 6 ≤ 7293000) (next : ∀ V' s', LwI Z G a V' s' → zX Γ κ (Z, V') (cs + 1) (sl + 6) Q 1165 (lwV b G.x (a 0) oa i0) []) : zX Γ κ (Z, V) cs sl Q 43 (lwV b G.x (a 0) oa i0) [] := by
  obtain ⟨F, TH, hSc, hR, hM, hAp, ho, hn⟩ := id C
  refine z_aload_n F dL_law_43 rfl ?_
  refine z_iload F dL_law_44 rfl ?_
  refine z_sld F hSc dL_law_46 (vp_in_nI (by omega) (by omega)) ?_
  refine z_bipush (v := nI 31) F dL_law_47 (by decide) ?_
  refine z_iand F dL_law_49 ?_
  obtain ⟨x, hx⟩ : ∃ x, x = xs (nI i0).toNatClampNeg &&& nI 31 := ⟨_, rfl⟩
  rw [← hx]
  by_cases e0 : x = nI 0
  · rw [e0]
    refine z_tsIn (off := 114) (tgt := 164) F dL_law_50 (by decide) (by decide) rfl (by decide) ?_
    exact w_value hPr C I hi hN hc next
  by_cases e1 : x = nI 1
  · rw [e1]
    refine z_tsIn (off := 215) (tgt := 265) F dL_law_50 (by decide) (by decide) rfl (by decide) ?_
    exact w_act hPr C I hi hN hc next
  by_cases e2 : x = nI 2
  · rw [e2]
    refine z_tsIn (off := 264) (tgt := 314) F dL_law_50 (by decide) (by decide) rfl (by decide) ?_
    exact w_quotient hPr C I hi hN hc next
  by_cases e3 : x = nI 3
  · rw [e3]
    refine z_tsIn (off := 332) (tgt := 382) F dL_law_50 (by decide) (by decide) rfl (by decide) ?_
    exact w_drop hPr C I hi hN hc next
  by_cases e4 : x = nI 4
  · rw [e4]
    refine z_tsIn (off := 345) (tgt := 395) F dL_law_50 (by decide) (by decide) rfl (by decide) ?_
    exact w_compare hPr C I hi hN hc next
  by_cases e5 : x = nI 5
  · rw [e5]
    refine z_tsIn (off := 382) (tgt := 432) F dL_law_50 (by decide) (by decide) rfl (by decide) ?_
    exact w_about hPr C I hi hN hc next
  by_cases e6 : x = nI 6
  · rw [e6]
    refine z_tsIn (off := 419) (tgt := 469) F dL_law_50 (by decide) (by decide) rfl (by decide) ?_
    exact w_limb hPr C I hi hN hc next
  by_cases e7 : x = nI 7
  · rw [e7]
    refine z_tsIn (off := 499) (tgt := 549) F dL_law_50 (by decide) (by decide) rfl (by decide) ?_
    exact w_entry hPr C I hi hN hc next
  by_cases e8 : x = nI 8
  · rw [e8]
    refine z_tsIn (off := 626) (tgt := 676) F dL_law_50 (by decide) (by decide) rfl (by decide) ?_
    exact w_put hPr C I hi hN hc next
  by_cases e9 : x = nI 9
  · rw [e9]
    refine z_tsIn (off := 675) (tgt := 725) F dL_law_50 (by decide) (by decide) rfl (by decide) ?_
    exact w_take hPr C I hi hN hc next
  by_cases e10 : x = nI 10
  · rw [e10]
    refine z_tsIn (off := 712) (tgt := 762) F dL_law_50 (by decide) (by decide) rfl (by decide) ?_
    exact w_solve hPr C I hi hN hc next
  by_cases e11 : x = nI 11
  · rw [e11]
    refine z_tsIn (off := 737) (tgt := 787) F dL_law_50 (by decide) (by decide) rfl (by decide) ?_
    exact w_answers hPr C I hi hN hc next
  by_cases e12 : x = nI 12
  · rw [e12]
    refine z_tsIn (off := 750) (tgt := 800) F dL_law_50 (by decide) (by decide) rfl (by decide) ?_
    exact w_unknown hPr C I hi hN hc next
  by_cases e13 : x = nI 13
  · rw [e13]
    refine z_tsIn (off := 775) (tgt := 825) F dL_law_50 (by decide) (by decide) rfl (by decide) ?_
    exact w_pivot hPr C I hi hN hc next
  by_cases e14 : x = nI 14
  · rw [e14]
    refine z_tsIn (off := 812) (tgt := 862) F dL_law_50 (by decide) (by decide) rfl (by decide) ?_
    exact w_holds hPr C I hi hN hc next
  by_cases e15 : x = nI 15
  · rw [e15]
    refine z_tsIn (off := 837) (tgt := 887) F dL_law_50 (by decide) (by decide) rfl (by decide) ?_
    exact w_determinant hPr C I hi hN hc next
  by_cases e16 : x = nI 16
  · rw [e16]
    refine z_tsIn (off := 862) (tgt := 912) F dL_law_50 (by decide) (by decide) rfl (by decide) ?_
    exact w_rest hPr C I hi hN hc next
  by_cases e17 : x = nI 17
  · rw [e17]
    refine z_tsIn (off := 899) (tgt := 949) F dL_law_50 (by decide) (by decide) rfl (by decide) ?_
    exact w_meet hPr C I hi hN hc next
  by_cases e18 : x = nI 18
  · rw [e18]
    refine z_tsIn (off := 936) (tgt := 986) F dL_law_50 (by decide) (by decide) rfl (by decide) ?_
    exact w_joined hPr C I hi hN hc next
  by_cases e19 : x = nI 19
  · rw [e19]
    refine z_tsIn (off := 961) (tgt := 1011) F dL_law_50 (by decide) (by decide) rfl (by decide) ?_
    exact w_recover hPr C I hi hN hc next
  by_cases e20 : x = nI 20
  · rw [e20]
    refine z_tsIn (off := 974) (tgt := 1024) F dL_law_50 (by decide) (by decide) rfl (by decide) ?_
    exact w_part hPr C I hi hN hc next
  by_cases e21 : x = nI 21
  · rw [e21]
    refine z_tsIn (off := 987) (tgt := 1037) F dL_law_50 (by decide) (by decide) rfl (by decide) ?_
    exact w_decimals hPr C I hi hN hc next
  by_cases e22 : x = nI 22
  · rw [e22]
    refine z_tsIn (off := 1052) (tgt := 1102) F dL_law_50 (by decide) (by decide) rfl (by decide) ?_
    exact w_sign hPr C I hi hN hc next
  by_cases e23 : x = nI 23
  · rw [e23]
    refine z_tsIn (off := 1077) (tgt := 1127) F dL_law_50 (by decide) (by decide) rfl (by decide) ?_
    exact w_count hPr C I hi hN hc next
  by_cases e24 : x = nI 24
  · rw [e24]
    refine z_tsIn (off := 1102) (tgt := 1152) F dL_law_50 (by decide) (by decide) rfl (by decide) ?_
    exact w_clear hPr C I hi hN hc next
  refine z_tsOut (tgt := 1165) F dL_law_50 (toI_out (n := 24) (by decide) (fun k hk => ?_)) (by decide) ?_
  · match k, hk with
    | 0, _ => exact e0
    | 1, _ => exact e1
    | 2, _ => exact e2
    | 3, _ => exact e3
    | 4, _ => exact e4
    | 5, _ => exact e5
    | 6, _ => exact e6
    | 7, _ => exact e7
    | 8, _ => exact e8
    | 9, _ => exact e9
    | 10, _ => exact e10
    | 11, _ => exact e11
    | 12, _ => exact e12
    | 13, _ => exact e13
    | 14, _ => exact e14
    | 15, _ => exact e15
    | 16, _ => exact e16
    | 17, _ => exact e17
    | 18, _ => exact e18
    | 19, _ => exact e19
    | 20, _ => exact e20
    | 21, _ => exact e21
    | 22, _ => exact e22
    | 23, _ => exact e23
    | 24, _ => exact e24
    | k + 25, hk => exact absurd hk (by omega)
  · exact zX_widen (by omega) (by omega) (next V s I)
set_option maxRecDepth 100000 in
theorem w_loop (hPr : prOk) (C : LwC Γ κ Z G a oa b N xs) (hN : N ≤ 3585) (fin : ∀ V i0, zX Γ κ (Z, V) 601024 7293000 Q 1171 (lwV b G.x (a 0) oa i0) []) : ∀ r i0 V s cs sl, N ≤ i0 + 7 * r → i0 ≤ N + 7 → cs + r ≤ 601024 → sl + 6 * r ≤ 7293000 → LwI Z G a V s → zX Γ κ (Z, V) cs sl Q 33 (lwV b G.x (a 0) oa i0) [] := by
  intro r
  induction r with
  | zero =>
    intro i0 V s cs sl h1 h2 h3 h4 I
    exact w_head C hN h2 (by omega) (fin V i0) (fun h => absurd h (by omega))
  | succ r ih =>
    intro i0 V s cs sl h1 h2 h3 h4 I
    refine w_head C hN h2 (by omega) (fin V i0) (fun h => ?_)
    refine w_body hPr C I h hN (by omega) (fun V' s' I' => ?_)
    have F := C.1
    refine z_iinc_4 F dL_law_1165 rfl ?_
    rw [show nI i0 + Int32.ofInt 7 = nI (i0 + 7) from nI_add i0 7]
    refine z_goto (tgt := 33) F dL_law_1168 (by decide) ?_
    exact ih (i0 + 7) V' s' (cs + 1) (sl + 6) (by omega) (by omega) (by omega) (by omega) I'
end LOOP
