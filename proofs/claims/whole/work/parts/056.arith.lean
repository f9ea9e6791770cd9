/-! ===== Arithmetic: add, setRatio, order ===== -/
section ARA
variable {Γ : Gm} {Z : Hz} {V : Hv} {val : Nat → Nat} {bel : Nat → Bool} {uo vo w : Nat → Nat} {A a b q : Nat}
theorem div_c {x y c : Nat} (hc : c = Nat.gcd x y) : x / c * c = x ∧ y / c * c = y := by
  subst hc
  exact ⟨Nat.div_mul_cancel (Nat.gcd_dvd_left x y), Nat.div_mul_cancel (Nat.gcd_dvd_right x y)⟩
/-- the sum by its parts, as add makes it -/
theorem fadd_parts {x y : Fr} {less : Bool} (hx : flow x) (hy : flow y) : fadd x y less =
    let c := Nat.gcd x.2.2 y.2.2
    let L := x.2.1 * (y.2.2 / c)
    let Rr := y.2.1 * (x.2.2 / c)
    let t := if x.1 = (y.1 != less) then L + Rr else if Rr ≤ L then L - Rr else Rr - L
    let s := if x.1 = (y.1 != less) then x.1 else if Rr ≤ L then x.1 else (y.1 != less)
    (s && decide (t / Nat.gcd t c ≠ 0), t / Nat.gcd t c, x.2.2 / c * (y.2.2 / Nat.gcd t c)) := by
  obtain ⟨sx, ux, vx⟩ := x
  obtain ⟨sy, uy, vy⟩ := y
  obtain ⟨hvx, gx, -⟩ := hx
  obtain ⟨hvy, gy, -⟩ := hy
  simp only at hvx gx hvy gy
  simp only [fadd]
  obtain ⟨c, hc⟩ : ∃ c, c = Nat.gcd vx vy := ⟨_, rfl⟩
  have hc' : c = Nat.gcd vy vx := by rw [hc, Nat.gcd_comm]
  rw [← hc]
  obtain ⟨e1, e2⟩ := div_c hc
  have hc0 : 0 < c := by rw [hc]; exact Nat.gcd_pos_of_pos_left vy hvx
  obtain ⟨L, hL⟩ : ∃ L, L = ux * (vy / c) := ⟨_, rfl⟩
  obtain ⟨Rr, hR⟩ : ∃ Rr, Rr = uy * (vx / c) := ⟨_, rfl⟩
  have k1 : ux * vy = L * c := by rw [hL, Nat.mul_assoc, e2]
  have k2 : uy * vx = Rr * c := by rw [hR, Nat.mul_assoc, e1]
  have cxa : Nat.Coprime ux (vx / c) := Nat.Coprime.coprime_div_right gx (by rw [hc]; exact Nat.gcd_dvd_left vx vy)
  have cya : Nat.Coprime uy (vy / c) := Nat.Coprime.coprime_div_right gy (by rw [hc]; exact Nat.gcd_dvd_right vx vy)
  have cab : Nat.Coprime (vx / c) (vy / c) := by rw [hc]; exact Nat.coprime_div_gcd_div_gcd (by rw [← hc]; exact hc0)
  have cL : Nat.Coprime L (vx / c) := by rw [hL]; exact Nat.Coprime.mul_left cxa cab.symm
  have cR : Nat.Coprime Rr (vy / c) := by rw [hR]; exact Nat.Coprime.mul_left cya cab
  rw [← hL, ← hR, k1, k2]
  by_cases hs : sx = (sy != less)
  · simp only [if_pos hs]
    rw [← Nat.add_mul]
    refine add_parts sx hvx hvy hc rfl ?_ ?_
    · rw [hR, Nat.gcd_add_mul_right_left]; exact cL
    · rw [hL, Nat.gcd_mul_right_add_left]; exact cR
  · simp only [if_neg hs]
    by_cases hle : Rr ≤ L
    · rw [if_pos (Nat.mul_le_mul_right c hle)]
      simp only [if_pos hle]
      rw [← Nat.sub_mul]
      refine add_parts sx hvx hvy hc rfl ?_ ?_
      · rw [hR] at hle ⊢; rw [Nat.gcd_sub_mul_right_left hle]; exact cL
      · rw [hL] at hle ⊢; rw [Nat.gcd_mul_right_sub_left hle]; exact cR
    · have hle2 : ¬ Rr * c ≤ L * c := fun z => hle (Nat.le_of_mul_le_mul_right z hc0)
      rw [if_neg hle2]
      simp only [if_neg hle]
      have hle3 : L ≤ Rr := by omega
      rw [← Nat.sub_mul]
      refine add_parts (sy != less) hvx hvy hc rfl ?_ ?_
      · rw [hR] at hle3 ⊢; rw [Nat.gcd_mul_right_sub_left hle3]; exact cL
      · rw [hL] at hle3 ⊢; rw [Nat.gcd_sub_mul_right_left hle3]; exact cR
/-- the same, with names for the parts -/
theorem fadd_named (sa sb less : Bool) {ua va ub vb c L Rr t : Nat} {s : Bool} (hva : 0 < va) (hvb : 0 < vb) (ga : Nat.gcd ua va = 1) (gb : Nat.gcd ub vb = 1) (za : ua = 0 → sa = false) (zb9 : ub = 0 → sb = false) (hc : c = Nat.gcd va vb) (hL : L = ua * (vb / c)) (hR : Rr = ub * (va / c)) (ht : t = if sa = (sb != less) then L + Rr else if Rr ≤ L then L - Rr else Rr - L) (hs : s = if sa = (sb != less) then sa else if Rr ≤ L then sa else (sb != less)) : fadd (sa, ua, va) (sb, ub, vb) less = (s && decide (t / Nat.gcd t c ≠ 0), t / Nat.gcd t c, va / c * (vb / Nat.gcd t c)) := by
  subst hs ht hL hR hc
  exact fadd_parts (x := (sa, ua, va)) (y := (sb, ub, vb)) ⟨hva, ga, za⟩ ⟨hvb, gb, zb9⟩
set_option maxRecDepth 100000 in
set_option maxHeartbeats 1000000 in
/-- add(a, b, less, to) -/
theorem c_add {d : Bool} (hJ : wInj Z) (hA : aR Z A w) (hC : CF Z V val bel) (hS : fS Z uo vo w) (ha : zIn Z a 3) (hb : zIn Z b 3) (hq : zIn Z q 3) (oka : fok (fr val bel uo vo a)) (okb : fok (fr val bel uo vo b)) : zCt Γ mX0_add 4 115 0 0 [.ref A, .ref a, .ref b, .int (zb d), .ref q] (Z, V) (pZ (fun r S' => r = wideB (fadd (fr val bel uo vo a) (fr val bel uo vo b) d) ∧ tP Z V val bel uo vo w q (if wideB (fadd (fr val bel uo vo a) (fr val bel uo vo b) d) = true then fadd (fr val bel uo vo a) (fr val bel uo vo b) d else fr val bel uo vo q) S')) := by
  refine zCt.of [some (.ref A), some (.ref a), some (.ref b), some (.int (zb d)), some (.ref q), none] pn_X0_add rfl (Nat.le_of_ble_eq_true rfl) rfl (fun κ F => ?_)
  obtain ⟨hA0, hAf, hAi⟩ := id hA
  obtain ⟨-, pa0, pa1, iua, iva⟩ := (hS.1 a ha).1
  obtain ⟨-, pb0, pb1, iub, ivb⟩ := (hS.1 b hb).1
  obtain ⟨f4, i4⟩ := hAf 4 (by decide)
  obtain ⟨f6, i6⟩ := hAf 6 (by decide)
  obtain ⟨f7, i7⟩ := hAf 7 (by decide)
  obtain ⟨f8, i8⟩ := hAf 8 (by decide)
  obtain ⟨f9, i9⟩ := hAf 9 (by decide)
  obtain ⟨f10, i10⟩ := hAf 10 (by decide)
  obtain ⟨f11, i11⟩ := hAf 11 (by decide)
  have k7 : zIn Z (w 7) 7 := i7.choose_spec.1
  have k8 : zIn Z (w 8) 7 := i8.choose_spec.1
  have k9 : zIn Z (w 9) 7 := i9.choose_spec.1
  obtain ⟨⟨va0, gab, sab⟩, wua, wva⟩ := oka
  obtain ⟨⟨vb0, gbb, sbb⟩, wub, wvb⟩ := okb
  simp only at va0 gab sab wua wva vb0 gbb sbb wub wvb
  have oa := hS.out ha
  have ob := hS.out hb
  have sc : ∀ k, k < 12 → aW w (w k) := fun k hk => ⟨k, hk, rfl⟩
  have nw : ∀ {i j : Nat}, i < 12 → j < 12 → i ≠ j → w i ≠ w j := fun hi hj hij => hA.ne hi hj hij
  have nvb : ∀ k, k < 12 → vo b ≠ w k := fun k hk e => ob.2 ⟨k, hk, e⟩
  obtain ⟨c, hc⟩ : ∃ c, c = Nat.gcd (val (vo a)) (val (vo b)) := ⟨_, rfl⟩
  generalize hQ : zQ Γ κ (pZ (fun r S' => r = wideB (fadd (fr val bel uo vo a) (fr val bel uo vo b) d) ∧ tP Z V val bel uo vo w q (if wideB (fadd (fr val bel uo vo a) (fr val bel uo vo b) d) = true then fadd (fr val bel uo vo a) (fr val bel uo vo b) d else fr val bel uo vo q) S')) 0 0 = Q
  refine z_aload_n F dX0_add_0 rfl ?_
  refine z_aload_n F dX0_add_1 rfl ?_
  refine z_getR F dX0_add_2 gr_X0_144 (by assumption) (by assumption) ?_
  refine z_aload_n F dX0_add_5 rfl ?_
  refine z_getR F dX0_add_6 gr_X0_144 (by assumption) (by assumption) ?_
  refine z_cVv F (c_findCommon hJ hA hC.1 iva ivb (nvb 2 (by decide)) (by exact lt14 wva (by decide)) (by exact lt14 wvb (by decide))) dX0_add_9 ml_X0_128 ok_X0_findCommon hA0 (by decide) rfl rfl rfl (Nat.le_of_ble_eq_true rfl) (by decide) (by decide) (fun S' hS' => ?_)
  obtain ⟨V1, v1, rfl, hC1, hN1, g1, hE1⟩ := hS'
  rw [← hc] at g1
  have E1 : eV (aW w) val v1 := hE1.mono (fun o h => by
    rcases h with h | h | h | h | h <;> (rw [h]; exact sc _ (by decide)))
  refine z_aload_n F dX0_add_12 rfl ?_
  refine z_aload_n F dX0_add_13 rfl ?_
  refine z_getR F dX0_add_14 gr_X0_144 (by assumption) (by assumption) ?_
  refine z_aload_n F dX0_add_17 rfl ?_
  refine z_getR F dX0_add_18 gr_X0_43 (by assumption) (by assumption) ?_
  refine z_cVv F (c_cut hJ hA hC1 iva i10 (nw (by decide) (by decide) (by decide)) (nw (by decide) (by decide) (by decide)) (nw (by decide) (by decide) (by decide)) (by rw [E1 _ oa.2]; exact lt14 wva (by decide))) dX0_add_21 ml_X0_141 ok_X0_cut hA0 (by decide) rfl rfl rfl (Nat.le_of_ble_eq_true rfl) (by decide) (by decide) (fun S' hS' => ?_)
  obtain ⟨V2, v2, rfl, hC2, hN2, g2, hE2⟩ := hS'
  rw [E1 _ oa.2, g1] at g2
  have k2 : ∀ k, k < 12 → k ≠ 0 → k ≠ 5 → k ≠ 10 → v2 (w k) = v1 (w k) := fun k h12 h0 h5 h9 => hE2 _ (fun h => by
    rcases h with h | h | h
    · exact nw h12 (by decide) h0 h
    · exact nw h12 (by decide) h5 h
    · exact nw h12 (by decide) h9 h)
  have E2 : eV (aW w) val v2 := E1.trans (hE2.mono (fun o h => by
    rcases h with h | h | h <;> (rw [h]; exact sc _ (by decide))))
  refine z_aload_n F dX0_add_24 rfl ?_
  refine z_aload_n F dX0_add_25 rfl ?_
  refine z_getR F dX0_add_26 gr_X0_144 (by assumption) (by assumption) ?_
  refine z_aload_n F dX0_add_29 rfl ?_
  refine z_getR F dX0_add_30 gr_X0_46 (by assumption) (by assumption) ?_
  refine z_cVv F (c_cut hJ hA hC2 ivb i11 (nw (by decide) (by decide) (by decide)) (nw (by decide) (by decide) (by decide)) (nw (by decide) (by decide) (by decide)) (by rw [E2 _ ob.2]; exact lt14 wvb (by decide))) dX0_add_33 ml_X0_141 ok_X0_cut hA0 (by decide) rfl rfl rfl (Nat.le_of_ble_eq_true rfl) (by decide) (by decide) (fun S' hS' => ?_)
  obtain ⟨V3, v3, rfl, hC3, hN3, g3, hE3⟩ := hS'
  rw [E2 _ ob.2, k2 4 (by decide) (by decide) (by decide) (by decide), g1] at g3
  have k3 : ∀ k, k < 12 → k ≠ 0 → k ≠ 5 → k ≠ 11 → v3 (w k) = v2 (w k) := fun k h12 h0 h5 h9 => hE3 _ (fun h => by
    rcases h with h | h | h
    · exact nw h12 (by decide) h0 h
    · exact nw h12 (by decide) h5 h
    · exact nw h12 (by decide) h9 h)
  have E3 : eV (aW w) val v3 := E2.trans (hE3.mono (fun o h => by
    rcases h with h | h | h <;> (rw [h]; exact sc _ (by decide))))
  have nua : ∀ k, k < 12 → uo a ≠ w k := fun k hk e => oa.1 ⟨k, hk, e⟩
  have nub : ∀ k, k < 12 → uo b ≠ w k := fun k hk e => ob.1 ⟨k, hk, e⟩
  have e310 : v3 (w 10) = val (vo a) / c := by rw [k3 10 (by decide) (by decide) (by decide) (by decide), g2]
  have e34 : v3 (w 4) = c := by rw [k3 4 (by decide) (by decide) (by decide) (by decide), k2 4 (by decide) (by decide) (by decide) (by decide), g1]
  refine z_aload_n F dX0_add_36 rfl ?_
  refine z_getR F dX0_add_37 gr_X0_37 (by assumption) (by assumption) ?_
  refine z_aload_n F dX0_add_40 rfl ?_
  refine z_getR F dX0_add_41 gr_X0_136 (by assumption) (by assumption) ?_
  refine z_aload_n F dX0_add_44 rfl ?_
  refine z_getR F dX0_add_45 gr_X0_46 (by assumption) (by assumption) ?_
  refine z_cVv F (C_setProduct hC3 hJ i8 iua i11 (nua 8 (by decide)) (nw (by decide) (by decide) (by decide)) (by rw [E3 _ oa.1, g3]; exact nl66 wua (div_lt6 _ wvb))) dX0_add_48 ml_X0_151 ok_X8_setProduct k8 (by decide) rfl rfl rfl (Nat.le_of_ble_eq_true rfl) (by decide) (by decide) (fun S' hS' => ?_)
  obtain ⟨V4, rfl, hC4, hN4⟩ := hS'
  rw [E3 _ oa.1, g3] at hC4
  obtain ⟨L, hL⟩ : ∃ L, L = val (uo a) * (val (vo b) / c) := ⟨_, rfl⟩
  rw [← hL] at hC4
  have E4 : eV (aW w) val (va_up v3 (w 8) L) := E3.up (sc 8 (by decide))
  have e410 : va_up v3 (w 8) L (w 10) = val (vo a) / c := by rw [up_ne _ _ (nw (by decide) (by decide) (by decide)), e310]
  refine z_aload_n F dX0_add_51 rfl ?_
  refine z_getR F dX0_add_52 gr_X0_40 (by assumption) (by assumption) ?_
  refine z_aload_n F dX0_add_55 rfl ?_
  refine z_getR F dX0_add_56 gr_X0_136 (by assumption) (by assumption) ?_
  refine z_aload_n F dX0_add_59 rfl ?_
  refine z_getR F dX0_add_60 gr_X0_43 (by assumption) (by assumption) ?_
  refine z_cVv F (C_setProduct hC4 hJ i9 iub i10 (nub 9 (by decide)) (nw (by decide) (by decide) (by decide)) (by rw [E4 _ ob.1, e410]; exact nl66 wub (div_lt6 _ wva))) dX0_add_63 ml_X0_151 ok_X8_setProduct k9 (by decide) rfl rfl rfl (Nat.le_of_ble_eq_true rfl) (by decide) (by decide) (fun S' hS' => ?_)
  obtain ⟨V5, rfl, hC5, hN5⟩ := hS'
  rw [E4 _ ob.1, e410] at hC5
  obtain ⟨Rr, hR⟩ : ∃ Rr, Rr = val (uo b) * (val (vo a) / c) := ⟨_, rfl⟩
  rw [← hR] at hC5
  generalize hv5 : va_up (va_up v3 (w 8) L) (w 9) Rr = v5 at hC5
  have E5 : eV (aW w) val v5 := by rw [← hv5]; exact E4.up (sc 9 (by decide))
  have e58 : v5 (w 8) = L := by rw [← hv5, up_ne _ _ (nw (by decide) (by decide) (by decide)), up_self]
  have e59 : v5 (w 9) = Rr := by rw [← hv5, up_self]
  have e510 : v5 (w 10) = val (vo a) / c := by rw [← hv5, up_ne _ _ (nw (by decide) (by decide) (by decide)), e410]
  have e54 : v5 (w 4) = c := by rw [← hv5, up_ne _ _ (nw (by decide) (by decide) (by decide)), up_ne _ _ (nw (by decide) (by decide) (by decide)), e34]
  have hL12 : L < 4294967296 ^ 12 := by rw [hL]; exact mul_lt12 wua (div_lt6 _ wvb)
  have hR12 : Rr < 4294967296 ^ 12 := by rw [hR]; exact mul_lt12 wub (div_lt6 _ wva)
  have hN15 : eN Z V V5 := (((hN1.trans hN2).trans hN3).trans hN4).trans hN5
  have hF5 := hC.w hC5 hN15
  obtain ⟨t, ht⟩ : ∃ t, t = (if bel a = (bel b != d) then L + Rr else if Rr ≤ L then L - Rr else Rr - L) := ⟨_, rfl⟩
  obtain ⟨s, hs⟩ : ∃ s, s = (if bel a = (bel b != d) then bel a else if Rr ≤ L then bel a else (bel b != d)) := ⟨_, rfl⟩
  have hfp := fadd_named (bel a) (bel b) d va0 vb0 gab gbb sab sbb hc hL hR ht hs
  have hc0 : 0 < c := by rw [hc]; exact Nat.gcd_pos_of_pos_left _ va0
  have ht13 : t < 4294967296 ^ 13 := by
    have e : (4294967296 : Nat) ^ 13 = 4294967296 ^ 12 * 4294967296 := Nat.pow_succ ..
    rw [ht]
    split
    · omega
    · split <;> omega
  have hc6 : c < 4294967296 ^ 6 := Nat.lt_of_le_of_lt (by rw [hc]; exact Nat.gcd_le_right _ vb0) wvb
  rw [hfp] at hQ
  have rest : zX Γ κ (Z, V5) 0 0 Q 84 [some (.ref A), some (.ref a), some (.ref b), some (.int (zb d)), some (.ref q), none] [.int (zb (bel b != d)), .int (zb (bel a)), .ref A] := by
    refine z_cVz F (c_joinUppers hJ hA hC5 (by rw [e58]; exact hL12) (by rw [e59]; exact hR12)) dX0_add_84 ml_X0_154 ok_X0_joinUppers hA0 (by decide) rfl rfl rfl (Nat.le_of_ble_eq_true rfl) (by decide) (by decide) (fun r S' hr => ?_)
    obtain ⟨hr, V6, v6, rfl, hC6, hN6, g6, hE6⟩ := hr
    rw [e58, e59, ← ht] at g6
    rw [e58, e59, ← hs] at hr
    subst hr
    have k6 : ∀ k, k < 12 → k ≠ 6 → v6 (w k) = v5 (w k) := fun k h12 h6 => hE6 _ (nw h12 (by decide) h6)
    have E6 : eV (aW w) val v6 := E5.trans (hE6.mono (fun o h => by rw [h]; exact sc _ (by decide)))
    refine z_istore_5 F dX0_add_87 rfl ?_
    refine z_aload_n F dX0_add_89 rfl ?_
    refine z_aload_n F dX0_add_90 rfl ?_
    refine z_getR F dX0_add_91 gr_X0_31 (by assumption) (by assumption) ?_
    refine z_aload_n F dX0_add_94 rfl ?_
    refine z_getR F dX0_add_95 gr_X0_25 (by assumption) (by assumption) ?_
    refine z_cVv F (c_findCommon hJ hA hC6 i6 i4 (nw (by decide) (by decide) (by decide)) (by rw [g6]; exact lt14 ht13 (by decide)) (by rw [k6 4 (by decide) (by decide), e54]; exact lt14 hc6 (by decide))) dX0_add_98 ml_X0_128 ok_X0_findCommon hA0 (by decide) rfl rfl rfl (Nat.le_of_ble_eq_true rfl) (by decide) (by decide) (fun S' hS' => ?_)
    obtain ⟨V7, v7, rfl, hC7, hN7, g7, hE7⟩ := hS'
    rw [g6, k6 4 (by decide) (by decide), e54] at g7
    have k7' : ∀ k, 5 ≤ k → k < 12 → v7 (w k) = v6 (w k) := fun k h5 h12 => hE7 _ (fun h => by
      rcases h with h | h | h | h | h <;> exact nw h12 (by decide) (by omega) h)
    have E7 : eV (aW w) val v7 := E6.trans (hE7.mono (fun o h => by
      rcases h with h | h | h | h | h <;> (rw [h]; exact sc _ (by decide))))
    refine z_aload_n F dX0_add_101 rfl ?_
    refine z_aload_n F dX0_add_102 rfl ?_
    refine z_getR F dX0_add_103 gr_X0_144 (by assumption) (by assumption) ?_
    refine z_aload_n F dX0_add_106 rfl ?_
    refine z_getR F dX0_add_107 gr_X0_46 (by assumption) (by assumption) ?_
    refine z_cVv F (c_cut hJ hA hC7 ivb i11 (nw (by decide) (by decide) (by decide)) (nw (by decide) (by decide) (by decide)) (nw (by decide) (by decide) (by decide)) (by rw [E7 _ ob.2]; exact lt14 wvb (by decide))) dX0_add_110 ml_X0_141 ok_X0_cut hA0 (by decide) rfl rfl rfl (Nat.le_of_ble_eq_true rfl) (by decide) (by decide) (fun S' hS' => ?_)
    obtain ⟨V8, v8, rfl, hC8, hN8, g8, hE8⟩ := hS'
    rw [E7 _ ob.2, g7] at g8
    have k8' : ∀ k, k < 12 → k ≠ 0 → k ≠ 5 → k ≠ 11 → v8 (w k) = v7 (w k) := fun k h12 h0 h5 h9 => hE8 _ (fun h => by
      rcases h with h | h | h
      · exact nw h12 (by decide) h0 h
      · exact nw h12 (by decide) h5 h
      · exact nw h12 (by decide) h9 h)
    have E8 : eV (aW w) val v8 := E7.trans (hE8.mono (fun o h => by
      rcases h with h | h | h <;> (rw [h]; exact sc _ (by decide))))
    have e86 : v8 (w 6) = t := by rw [k8' 6 (by decide) (by decide) (by decide) (by decide), k7' 6 (by decide) (by decide), g6]
    refine z_aload_n F dX0_add_113 rfl ?_
    refine z_aload_n F dX0_add_114 rfl ?_
    refine z_getR F dX0_add_115 gr_X0_31 (by assumption) (by assumption) ?_
    refine z_aload_n F dX0_add_118 rfl ?_
    refine z_getR F dX0_add_119 gr_X0_37 (by assumption) (by assumption) ?_
    refine z_cVv F (c_cut hJ hA hC8 i6 i8 (nw (by decide) (by decide) (by decide)) (nw (by decide) (by decide) (by decide)) (nw (by decide) (by decide) (by decide)) (by rw [e86]; exact lt14 ht13 (by decide))) dX0_add_122 ml_X0_141 ok_X0_cut hA0 (by decide) rfl rfl rfl (Nat.le_of_ble_eq_true rfl) (by decide) (by decide) (fun S' hS' => ?_)
    obtain ⟨V9, v9, rfl, hC9, hN9, g9, hE9⟩ := hS'
    rw [e86, k8' 4 (by decide) (by decide) (by decide) (by decide), g7] at g9
    have k9' : ∀ k, k < 12 → k ≠ 0 → k ≠ 5 → k ≠ 8 → v9 (w k) = v8 (w k) := fun k h12 h0 h5 h9 => hE9 _ (fun h => by
      rcases h with h | h | h
      · exact nw h12 (by decide) h0 h
      · exact nw h12 (by decide) h5 h
      · exact nw h12 (by decide) h9 h)
    have E9 : eV (aW w) val v9 := E8.trans (hE9.mono (fun o h => by
      rcases h with h | h | h <;> (rw [h]; exact sc _ (by decide))))
    have e910 : v9 (w 10) = val (vo a) / c := by rw [k9' 10 (by decide) (by decide) (by decide) (by decide), k8' 10 (by decide) (by decide) (by decide) (by decide), k7' 10 (by decide) (by decide), k6 10 (by decide) (by decide), e510]
    have e911 : v9 (w 11) = val (vo b) / Nat.gcd t c := by rw [k9' 11 (by decide) (by decide) (by decide) (by decide), g8]
    refine z_aload_n F dX0_add_125 rfl ?_
    refine z_getR F dX0_add_126 gr_X0_34 (by assumption) (by assumption) ?_
    refine z_aload_n F dX0_add_129 rfl ?_
    refine z_getR F dX0_add_130 gr_X0_43 (by assumption) (by assumption) ?_
    refine z_aload_n F dX0_add_133 rfl ?_
    refine z_getR F dX0_add_134 gr_X0_46 (by assumption) (by assumption) ?_
    refine z_cVv F (C_setProduct hC9 hJ i7 i10 i11 (nw (by decide) (by decide) (by decide)) (nw (by decide) (by decide) (by decide)) (by rw [e910, e911]; exact nl66 (div_lt6 _ wva) (div_lt6 _ wvb))) dX0_add_137 ml_X0_151 ok_X8_setProduct k7 (by decide) rfl rfl rfl (Nat.le_of_ble_eq_true rfl) (by decide) (by decide) (fun S' hS' => ?_)
    obtain ⟨V10, rfl, hC10, hN10⟩ := hS'
    rw [e910, e911] at hC10
    have E10 : eV (aW w) val (va_up v9 (w 7) (val (vo a) / c * (val (vo b) / Nat.gcd t c))) := E9.up (sc 7 (by decide))
    have hN1z : eN Z V V10 := ((((hN15.trans hN6).trans hN7).trans hN8).trans hN9).trans hN10
    have hF10 := hC.w hC10 hN1z
    have hout := hS.1 q hq
    have e108 : va_up v9 (w 7) (val (vo a) / c * (val (vo b) / Nat.gcd t c)) (w 8) = t / Nat.gcd t c := by rw [up_ne _ _ (nw (by decide) (by decide) (by decide)), g9]
    have e107 : va_up v9 (w 7) (val (vo a) / c * (val (vo b) / Nat.gcd t c)) (w 7) = val (vo a) / c * (val (vo b) / Nat.gcd t c) := up_self _ _ _
    refine z_aload_n F dX0_add_140 rfl ?_
    refine z_iload F dX0_add_141 rfl ?_
    refine z_aload_n F dX0_add_143 rfl ?_
    refine z_getR F dX0_add_144 gr_X0_37 (by assumption) (by assumption) ?_
    refine z_aload_n F dX0_add_147 rfl ?_
    refine z_getR F dX0_add_148 gr_X0_34 (by assumption) (by assumption) ?_
    refine z_aload F dX0_add_151 rfl ?_
    refine z_cVz F (c_setWide hJ hA hF10 hS hq i8 i7 (Ne.symm (hout.2 7 (by decide)).1)) dX0_add_153 ml_X0_158 ok_X0_setWide hA0 (by decide) rfl rfl rfl (Nat.le_of_ble_eq_true rfl) (by decide) (by decide) (fun r S' hr => ?_)
    obtain ⟨rfl, hr⟩ := hr
    rw [e108, e107] at hr ⊢
    subst hQ
    exact z_zret F _ dX0_add_156 rfl rfl ⟨rfl, by
      refine tP.after hN1z E10 hr ?_
      congr 1
      simp only [fr]
      rw [E10 _ (hS.out hq).1, E10 _ (hS.out hq).2]⟩
  have hba : vI V5 3 2 a = zb (bel a) := hF5.2 a ha
  have hbb : vI V5 3 2 b = zb (bel b) := hF5.2 b hb
  refine z_aload_n F dX0_add_66 rfl ?_
  refine z_aload_n F dX0_add_67 rfl ?_
  refine z_getI F dX0_add_68 gi_X0_147 (by assumption) ?_
  refine z_ti hba ?_
  refine z_aload_n F dX0_add_71 rfl ?_
  refine z_getI F dX0_add_72 gi_X0_147 (by assumption) ?_
  refine z_ti hbb ?_
  refine z_iload_n F dX0_add_75 rfl ?_
  refine z_icmp_eq (tgt := 83) F dX0_add_76 (by decide) (fun c1 => ?_) (fun c1 => ?_)
  · have h := (zb_cmp _ _).mp c1
    refine z_iconst (v := nI 0) F dX0_add_83 (by decide) ?_
    have e : nI 0 = zb (bel b != d) := by rw [h]; cases d <;> rfl
    rw [e]
    exact rest
  · have h := mt (zb_cmp _ _).mpr c1
    refine z_iconst (v := nI 1) F dX0_add_79 (by decide) ?_
    refine z_goto (tgt := 84) F dX0_add_80 (by decide) ?_
    have e : nI 1 = zb (bel b != d) := by
      revert h
      cases bel b <;> cases d <;> intro h <;> first | rfl | exact absurd rfl h
    rw [e]
    exact rest
/-- order of two Fractions, as order() answers it -/
def fcmp (x y : Fr) : Int32 := if x.1 = y.1 then (if x.1 = true then cmpI (y.2.1 * x.2.2) (x.2.1 * y.2.2) else cmpI (x.2.1 * y.2.2) (y.2.1 * x.2.2)) else (if x.1 = true then -1 else 1)
/-- what a method leaves that changes the Arithmetic's own Wholes alone -/
def sP (Z : Hz) (V : Hv) (val : Nat → Nat) (w : Nat → Nat) : Hs → Prop := fun S' => ∃ (V' : Hv) (val' : Nat → Nat), S' = (Z, V') ∧ CV Z V' val' ∧ eN Z V V' ∧ eV (aW w) val val'
set_option maxRecDepth 100000 in
theorem c_order (hJ : wInj Z) (hA : aR Z A w) (hC : CF Z V val bel) (hS : fS Z uo vo w) (ha : zIn Z a 3) (hb : zIn Z b 3) (oka : fok (fr val bel uo vo a)) (okb : fok (fr val bel uo vo b)) : zCt Γ mX0_order 2 51 0 0 [.ref A, .ref a, .ref b] (Z, V) (pI (fun r S' => r = fcmp (fr val bel uo vo a) (fr val bel uo vo b) ∧ sP Z V val w S')) := by
  refine zCt.of [some (.ref A), some (.ref a), some (.ref b)] pn_X0_order rfl (Nat.le_of_ble_eq_true rfl) rfl (fun κ F => ?_)
  obtain ⟨hA0, hAf, hAi⟩ := id hA
  obtain ⟨-, pa0, pa1, iua, iva⟩ := (hS.1 a ha).1
  obtain ⟨-, pb0, pb1, iub, ivb⟩ := (hS.1 b hb).1
  obtain ⟨f8, i8⟩ := hAf 8 (by decide)
  obtain ⟨f9, i9⟩ := hAf 9 (by decide)
  have k8 : zIn Z (w 8) 7 := i8.choose_spec.1
  have k9 : zIn Z (w 9) 7 := i9.choose_spec.1
  obtain ⟨-, wua, wva⟩ := oka
  obtain ⟨-, wub, wvb⟩ := okb
  simp only at wua wva wub wvb
  have oa := hS.out ha
  have ob := hS.out hb
  have sc : ∀ k, k < 12 → aW w (w k) := fun k hk => ⟨k, hk, rfl⟩
  have n89 : w 8 ≠ w 9 := hA.ne (by decide) (by decide) (by decide)
  have nn : ∀ {x : Nat}, ¬ aW w x → ∀ k, k < 12 → x ≠ w k := fun h k hk e => h ⟨k, hk, e⟩
  refine z_aload_n F dX0_order_0 rfl ?_
  refine z_getI F dX0_order_1 gi_X0_147 (by assumption) ?_
  refine z_ti (hC.2 a ha) ?_
  refine z_aload_n F dX0_order_4 rfl ?_
  refine z_getI F dX0_order_5 gi_X0_147 (by assumption) ?_
  refine z_ti (hC.2 b hb) ?_
  refine z_icmp_eq (tgt := 24) F dX0_order_8 (by decide) (fun c => ?_) (fun c => ?_)
  · have hab := (zb_cmp _ _).mp c
    have hfc : fcmp (fr val bel uo vo a) (fr val bel uo vo b) = if bel a = true then cmpI (val (uo b) * val (vo a)) (val (uo a) * val (vo b)) else cmpI (val (uo a) * val (vo b)) (val (uo b) * val (vo a)) := by
      simp only [fcmp, fr, if_pos hab]
    rw [hfc]
    refine z_aload_n F dX0_order_24 rfl ?_
    refine z_getR F dX0_order_25 gr_X0_37 (by assumption) (by assumption) ?_
    refine z_aload_n F dX0_order_28 rfl ?_
    refine z_getR F dX0_order_29 gr_X0_136 (by assumption) (by assumption) ?_
    refine z_aload_n F dX0_order_32 rfl ?_
    refine z_getR F dX0_order_33 gr_X0_144 (by assumption) (by assumption) ?_
    refine z_cVv F (C_setProduct hC.1 hJ i8 iua ivb (nn oa.1 8 (by decide)) (nn ob.2 8 (by decide)) (nl66 wua wvb)) dX0_order_36 ml_X0_151 ok_X8_setProduct k8 (by decide) rfl rfl rfl (Nat.le_of_ble_eq_true rfl) (by decide) (by decide) (fun S' hS' => ?_)
    obtain ⟨V1, rfl, hC1, hN1⟩ := hS'
    have E1 : eV (aW w) val (va_up val (w 8) (val (uo a) * val (vo b))) := (eV.refl _ _).up (sc 8 (by decide))
    refine z_aload_n F dX0_order_39 rfl ?_
    refine z_getR F dX0_order_40 gr_X0_40 (by assumption) (by assumption) ?_
    refine z_aload_n F dX0_order_43 rfl ?_
    refine z_getR F dX0_order_44 gr_X0_136 (by assumption) (by assumption) ?_
    refine z_aload_n F dX0_order_47 rfl ?_
    refine z_getR F dX0_order_48 gr_X0_144 (by assumption) (by assumption) ?_
    refine z_cVv F (C_setProduct hC1 hJ i9 iub iva (nn ob.1 9 (by decide)) (nn oa.2 9 (by decide)) (by rw [E1 _ ob.1, E1 _ oa.2]; exact nl66 wub wva)) dX0_order_51 ml_X0_151 ok_X8_setProduct k9 (by decide) rfl rfl rfl (Nat.le_of_ble_eq_true rfl) (by decide) (by decide) (fun S' hS' => ?_)
    obtain ⟨V2, rfl, hC2, hN2⟩ := hS'
    rw [E1 _ ob.1, E1 _ oa.2] at hC2
    have E2 := E1.up (o := w 9) (x := val (uo b) * val (vo a)) (sc 9 (by decide))
    have hF2 := hC.w hC2 (hN1.trans hN2)
    have e8 : va_up (va_up val (w 8) (val (uo a) * val (vo b))) (w 9) (val (uo b) * val (vo a)) (w 8) = val (uo a) * val (vo b) := by rw [up_ne _ _ n89, up_self]
    have e9 : va_up (va_up val (w 8) (val (uo a) * val (vo b))) (w 9) (val (uo b) * val (vo a)) (w 9) = val (uo b) * val (vo a) := up_self _ _ _
    refine z_aload_n F dX0_order_54 rfl ?_
    refine z_getI F dX0_order_55 gi_X0_147 (by assumption) ?_
    refine z_ti (hF2.2 a ha) ?_
    refine z_if_eq (tgt := 75) F dX0_order_58 (by decide) (fun c2 => ?_) (fun c2 => ?_)
    · have hs := (zb_eq0 _).mp c2
      rw [hs]
      refine z_aload_n F dX0_order_75 rfl ?_
      refine z_getR F dX0_order_76 gr_X0_37 (by assumption) (by assumption) ?_
      refine z_aload_n F dX0_order_79 rfl ?_
      refine z_getR F dX0_order_80 gr_X0_40 (by assumption) (by assumption) ?_
      refine z_cVi F (C_against hC2 i8 i9) dX0_order_83 ml_X0_57 ok_X8_against k8 (by decide) rfl rfl rfl (Nat.le_of_ble_eq_true rfl) (by decide) (by decide) (fun r S' hr => ?_)
      obtain ⟨rfl, rfl⟩ := hr
      rw [e8, e9]
      exact z_iret F dX0_order_86 rfl ⟨rfl, V2, _, rfl, hC2, hN1.trans hN2, E2⟩
    · have hs : bel a = true := by
        cases h : bel a with
        | true => rfl
        | false => rw [h] at c2; exact absurd rfl c2
      rw [hs]
      refine z_aload_n F dX0_order_61 rfl ?_
      refine z_getR F dX0_order_62 gr_X0_40 (by assumption) (by assumption) ?_
      refine z_aload_n F dX0_order_65 rfl ?_
      refine z_getR F dX0_order_66 gr_X0_37 (by assumption) (by assumption) ?_
      refine z_cVi F (C_against hC2 i9 i8) dX0_order_69 ml_X0_57 ok_X8_against k9 (by decide) rfl rfl rfl (Nat.le_of_ble_eq_true rfl) (by decide) (by decide) (fun r S' hr => ?_)
      obtain ⟨rfl, rfl⟩ := hr
      rw [e8, e9]
      refine z_goto (tgt := 86) F dX0_order_72 (by decide) ?_
      exact z_iret F dX0_order_86 rfl ⟨rfl, V2, _, rfl, hC2, hN1.trans hN2, E2⟩
  · have hab := mt (zb_cmp _ _).mpr c
    have hfc : fcmp (fr val bel uo vo a) (fr val bel uo vo b) = if bel a = true then -1 else 1 := by
      simp only [fcmp, fr, if_neg hab]
    rw [hfc]
    refine z_aload_n F dX0_order_11 rfl ?_
    refine z_getI F dX0_order_12 gi_X0_147 (by assumption) ?_
    refine z_ti (hC.2 a ha) ?_
    refine z_if_eq (tgt := 22) F dX0_order_15 (by decide) (fun c2 => ?_) (fun c2 => ?_)
    · have hs := (zb_eq0 _).mp c2
      rw [hs]
      refine z_iconst (v := nI 1) F dX0_order_22 (by decide) ?_
      exact z_iret F dX0_order_23 rfl ⟨rfl, V, val, rfl, hC.1, eN.refl _ _, eV.refl _ _⟩
    · have hs : bel a = true := by
        cases h : bel a with
        | true => rfl
        | false => rw [h] at c2; exact absurd rfl c2
      rw [hs]
      refine z_iconst (v := (-1)) F dX0_order_18 (by decide) ?_
      refine z_goto (tgt := 23) F dX0_order_19 (by decide) ?_
      exact z_iret F dX0_order_23 rfl ⟨rfl, V, val, rfl, hC.1, eN.refl _ _, eV.refl _ _⟩
end ARA
