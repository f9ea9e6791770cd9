/-! ===== the law: its beginning ===== -/
section KEEPS
variable {S S' : Hs} {o : Nat} {ow ow' : Ow} {val val' : Nat → Nat} {a : Nat → Nat}
theorem X8.gr {x n A na ea E D SO J Y : Nat} (h : X8 S.1 S.2 x n A na ea E D SO J Y) (g : Gr S S' o ow ow' val val') (ho : o ∉ zL S.1) : X8 S'.1 S'.2 x n A na ea E D SO J Y := by
  obtain ⟨⟨i, r1, r2, r3, r4, r5, r6, r7, r8⟩, ⟨iA, ina, nna, iea, nea, iE, iD, iS, iJ, iY⟩, ⟨eA, eN, dA, dN, sA, sN, jA, yA⟩, v0, v9, v10, hn⟩ := h
  have ne : ∀ {q c : Nat}, zIn S.1 q c → q ≠ o := fun hq e => ho (e ▸ hq.1)
  have R : ∀ {q c j y k : Nat}, zIn S.1 q c → zR S.1 k j q = some y → zR S'.1 k j q = some y := fun hq hr => by rw [g.r hq.1 (ne hq)]; exact hr
  have W : ∀ {q c j k : Nat} {y : Int32}, zIn S.1 q c → vI S.2 k j q = y → vI S'.2 k j q = y := fun hq hr => by rw [g.vi hq.1 (ne hq)]; exact hr
  exact ⟨⟨g.i i, R i r1, R i r2, R i r3, R i r4, R i r5, R i r6, R i r7, R i r8⟩, ⟨g.i iA, g.i ina, by rw [g.n ina]; exact nna, g.i iea, by rw [g.n iea]; exact nea, g.i iE, g.i iD, g.i iS, g.i iJ, g.i iY⟩, ⟨R iE eA, W iE eN, R iD dA, W iD dN, R iS sA, W iS sN, R iJ jA, R iY yA⟩, W i v0, W i v9, W i v10, hn⟩
theorem mR.gr (h : mR S.1 a) (g : Gr S S' o ow ow' val val') (ho : o ∉ zL S.1) : mR S'.1 a := by
  obtain ⟨⟨i, r1, r2, r3, r4, r5, r6, r7, r8, r9, r10, r11⟩, ⟨i1, n1, i2, n2⟩, i3, ⟨i10, n10, i11, n11⟩, hd⟩ := h
  have ne : ∀ {q c : Nat}, zIn S.1 q c → q ≠ o := fun hq e => ho (e ▸ hq.1)
  have R : ∀ {q c j y k : Nat}, zIn S.1 q c → zR S.1 k j q = some y → zR S'.1 k j q = some y := fun hq hr => by rw [g.r hq.1 (ne hq)]; exact hr
  exact ⟨⟨g.i i, R i r1, R i r2, R i r3, R i r4, R i r5, R i r6, R i r7, R i r8, R i r9, R i r10, R i r11⟩, ⟨g.i i1, by rw [g.n i1]; exact n1, g.i i2, by rw [g.n i2]; exact n2⟩, fun k h1 h2 => ⟨g.i (i3 k h1 h2).1, by rw [g.n (i3 k h1 h2).1]; exact (i3 k h1 h2).2⟩, ⟨g.i i10, by rw [g.n i10]; exact n10, g.i i11, by rw [g.n i11]; exact n11⟩, hd⟩
theorem rMT.gr {n : Nat} {T : Nat → Fr} {L : Nat → Nat} {s : St} (h : mR S.1 a) (hM : rMT a S.2 n T L s) (g : Gr S S' o ow ow' val val') (ho : o ∉ zL S.1) : rMT a S'.2 n T L s := by
  refine hM.eq (fun k => g.vi h.1.1.1 (fun e => ho (e ▸ h.1.1.1)) 9 k) (fun k h1 h2 => ?_)
  have hm : a k ∈ zL S.1 := by rcases h.kd k h1 h2 with z | z <;> exact z.1
  exact ((g.1 _ hm).2.2.2.2.2 (fun e => ho (e ▸ hm))).2.2.2.1
theorem CI.nil (V : Hv) {Z : Hz} (h : zL Z = []) : CI (Z, V) (fun _ => none) (fun _ => 0) := by
  have no : ∀ a, ¬ a ∈ zL Z := fun a ha => by rw [h] at ha; cases ha
  exact ⟨fun a _ _ ha => absurd ha (no a), fun _ _ w => absurd w.1.1 (no _), fun b _ _ hb => absurd hb (no b)⟩
end KEEPS
section START
variable {Γ : Gm} {κ : Cx} {S : Hs} {b N : Nat} {xs : Nat → Int32} {Q : State → Prop}
set_option maxRecDepth 100000 in
set_option maxHeartbeats 1000000 in
theorem w_start (hPr : prOk) (F : zFx Γ κ mL_law rL) (TH : zThr Γ (ks κ)) (hSc : zSc Γ b N xs (ks κ)) (hN : N ≤ 3585) (hS : zL S.1 = []) (fin : ∀ S' x m oa i0, zX Γ κ S' 601024 7293000 Q 1171 (lwV b x m oa i0) []) : zX Γ κ S 0 0 Q 0 [some (.ref b), none, none, none, none, none, none] [] := by
  obtain ⟨p, hp⟩ : ∃ p, p = (if 0 < N then xs 0 else 0) := ⟨_, rfl⟩
  have hn := cN_ok p
  have h30 := nn30 hn.2
  refine z_new (ci := 8) F dL_law_0 cl_L_8 ins_X9 ini_X9 rfl (by decide) rfl ⟨by decide, by decide⟩ (fun x hx _ => ?_)
  have hC1 := (CI.nil S.2 hS).new hx 8 0
  refine z_dup F dL_law_3 rfl ?_
  refine z_aload_n F dL_law_4 rfl ?_
  refine z_iconst (v := nI 0) F dL_law_5 (by decide) ?_
  refine z_callSc (As := [.ref b, .int (nI 0)]) F hSc (h_cell hN) dL_law_6 ml_L_21 ok_L_cell rfl rfl rfl (Nat.le_of_ble_eq_true rfl) (by decide) (by decide) (fun r S' hr => ?_)
  obtain ⟨v, rfl, rfl, rfl⟩ := hr
  rw [← hp]
  have i1 : zIn (zpN S.1 x 8 0) x 8 := ⟨(zpN_L _ _ _ _ _).mpr (Or.inr rfl), zpN_k' _ _ _ _⟩
  have v0 : ∀ c k, vI (vpN S.2 x) c k x = 0 := fun c k => by simp [vpN, vI]
  refine z_callI (As := [.int p]) F (c_initX p hC1 i1 (v0 8 9) (v0 8 10)) dL_law_9 ml_L_27 ok_X9_init im_X9_init rfl rfl rfl rfl rfl (Nat.le_of_ble_eq_true rfl) ⟨Nat.le_of_ble_eq_true rfl, Nat.le_of_ble_eq_true rfl⟩ ⟨by show _ ≤ 601024; omega, by show _ ≤ 7293000; omega⟩ (fun S2 hS2 => ?_)
  obtain ⟨ow2, val2, hG12, hC2, A, na, ea, E, D, SO, J, Y, hX2⟩ := hS2
  refine zX_widen (cs' := 1000) (sl' := 10000) (by omega) (by omega) ?_
  refine z_astore_n_1 F dL_law_12 rfl ?_
  refine z_new (ci := 9) F dL_law_13 cl_L_30 ins_X10 ini_X10 rfl (by decide) rfl ⟨by decide, by decide⟩ (fun m hm _ => ?_)
  have hC3 := hC2.new hm 9 0
  refine z_dup F dL_law_16 rfl ?_
  refine z_aload_n F dL_law_17 rfl ?_
  refine z_iconst (v := nI 0) F dL_law_18 (by decide) ?_
  refine z_callSc (As := [.ref b, .int (nI 0)]) F hSc (h_cell hN) dL_law_19 ml_L_21 ok_L_cell rfl rfl rfl (Nat.le_of_ble_eq_true rfl) (by decide) (by decide) (fun r S' hr => ?_)
  obtain ⟨v, rfl, rfl, rfl⟩ := hr
  rw [← hp]
  have i3 : zIn (zpN S2.1 m 9 0) m 9 := ⟨(zpN_L _ _ _ _ _).mpr (Or.inr rfl), zpN_k' _ _ _ _⟩
  have v3 : ∀ k, vI (vpN S2.2 m) 9 k m = 0 := fun k => by simp [vpN, vI]
  refine z_callI (As := [.int p]) F (c_initM p hC3 i3 v3) dL_law_22 ml_L_32 ok_X10_init im_X10_init rfl rfl rfl rfl rfl (Nat.le_of_ble_eq_true rfl) ⟨Nat.le_of_ble_eq_true rfl, Nat.le_of_ble_eq_true rfl⟩ ⟨by decide, by decide⟩ (fun S4 hS4 => ?_)
  obtain ⟨ow4, val4, a, T, L, hG34, hC4, ha0, hM4, hT4⟩ := hS4
  have k4 : zK S4.1 m = 9 := (hG34.1 m i3.1).2.1.trans i3.2
  have hG24 := Gr.mk (ci := 9) (N := 0) hm hG34 (FIN.kd (Or.inr (Or.inl k4)))
  have mm : m ∈ zL S4.1 := (hG34.1 m i3.1).1
  refine z_astore_n_2 F dL_law_25 rfl ?_
  refine z_iconst (v := nI 1) F dL_law_26 (by decide) ?_
  refine z_newA (N := 1) (ci := 14) (t0 := 4) F dL_law_27 ac_long rfl rfl (Or.inr (Or.inr (Or.inr ⟨rfl, rfl⟩))) rfl (by decide) ⟨by decide, by decide⟩ (fun oa hoa _ => ?_)
  have hC5 := hC4.new hoa 14 1
  have hG45 : Gr S4 (zpN S4.1 oa 14 1, vpN S4.2 oa) oa ow4 (va_up ow4 oa none) val4 (va_up val4 oa 0) := Gr.arr hoa (by omega)
  refine z_astore_n_3 F dL_law_29 rfl ?_
  refine z_iconst (v := nI 1) F dL_law_30 (by decide) ?_
  refine z_istore_4 F dL_law_31 rfl ?_
  refine zX_widen (cs' := 2000) (sl' := 20000) (by omega) (by omega) ?_
  have f2 : ∀ q, q ∈ zL S2.1 → FIN S2.1 S2.2 val2 q := fun q hq => by
    by_cases h : q ∈ zL (zpN S.1 x 8 0)
    · have e : q = x := by
        rcases (zpN_L _ _ _ _ _).mp h with z | z
        · rw [hS] at z; cases z
        · exact z
      rw [e]
      exact FIN.kd (Or.inl ((hG12.1 x i1.1).2.1.trans i1.2))
    · exact hG12.2 q hq h
  have f4 : ∀ q, q ∈ zL S4.1 → FIN S4.1 S4.2 val4 q := fun q hq => by
    by_cases h : q ∈ zL S2.1
    · exact (f2 q h).gr h (fun (e : q = m) => hm (e ▸ h)) hG24
    · exact hG24.2 q hq h
  have f5 : ∀ q, q ∈ zL (zpN S4.1 oa 14 1) → FIN (zpN S4.1 oa 14 1) (vpN S4.2 oa) (va_up val4 oa 0) q := fun q hq => by
    by_cases h : q ∈ zL S4.1
    · exact (f4 q h).gr h (fun (e : q = oa) => hoa (e ▸ h)) hG45
    · exact hG45.2 q hq h
  have hX5 := (hX2.gr hG24 hm).gr hG45 hoa
  have hM5 := hM4.gr hG45 hoa
  have hT5 := hT4.gr hM4 hG45 hoa
  obtain ⟨G, hGx, hGn, hR, hrC⟩ := build_x hC5 f5 hX5
  have hAp := ApM.of hC5.1 hR hM5
  have ho : zIn (zpN S4.1 oa 14 1) oa 14 := ⟨(zpN_L _ _ _ _ _).mpr (Or.inr rfl), zpN_k' _ _ _ _⟩
  have C : LwC Γ κ (zpN S4.1 oa 14 1) G a oa b N xs := ⟨F, TH, hSc, hR, hM5, hAp, ho, zpN_n' _ _ _ _⟩
  have I : LwI (zpN S4.1 oa 14 1) G a (vpN S4.2 oa) St0 := ⟨hrC, T, L, by rw [hGn]; exact hT5⟩
  have K := w_loop (Q := Q) hPr C hN (fun V i0 => fin _ _ _ _ _) 513 1 (vpN S4.2 oa) St0 2000 20000 (by omega) (by omega) (by omega) (by omega) I
  rw [hGx, ha0] at K
  exact K
end START
