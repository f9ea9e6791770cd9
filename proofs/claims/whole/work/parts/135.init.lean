/-! ===== constructors: FractionRowsModel ===== -/
section INIT4
variable {Γ : Gm} {κ : Cx} {S S0 S1 : Hs} {cs sl pc : Nat} {Q : State → Prop} {lv : Lv} {st : List Value} {M : Mm} {R : Room} {ow ow0 ow1 : Ow} {val val0 val1 : Nat → Nat} {o ci k : Nat}
theorem Gr.setV {V' : Hv} (h : Gr S S1 o ow ow1 val val1) (hi : ∀ c k b, vI V' c k b = vI S1.2 c k b) (hA : ∀ b, b ∈ zL S.1 → vA V' b = vA S1.2 b) (hJ : vJ V' = vJ S1.2) : Gr S (S1.1, V') o ow ow1 val val1 := by
  refine ⟨fun a ha => ?_, fun a h1 h2 => ?_⟩
  · obtain ⟨a1, a2, a3, a4, a5, a6⟩ := h.1 a ha
    refine ⟨a1, a2, a3, a4, a5, fun hne => ?_⟩
    obtain ⟨c1, c2, c3, c4, c5⟩ := a6 hne
    exact ⟨c1, c2, fun c j => (hi c j a).trans (c3 c j), (hA a ha).trans c4, by show vJ V' a = _; rw [hJ]; exact c5⟩
  · exact (h.2 a h1 h2).ofEq rfl (fun b hb => hb) rfl (fun _ _ => rfl) rfl (fun c j => hi c j a) (fun _ _ _ => rfl)
theorem CI.setV {V' : Hv} (h : CI S ow val) (hi : ∀ c k b, vI V' c k b = vI S.2 c k b) (hA : ∀ o g, wh S.1 o g → vA V' g = vA S.2 g) : CI (S.1, V') ow val := ⟨h.1, fun o g w => by
  obtain ⟨v1, v2⟩ := h.2.1 o g w
  exact ⟨by show vl (vA V' g) 16 = _; rw [hA o g w]; exact v1, by show vI V' 7 1 o = _; rw [hi]; exact v2⟩, h.2.2⟩
theorem z_nB (F : zFx Γ κ M R) {i4 t0 N ca : Nat} {at' : ArrayType} {ty : FieldType} {n : Int32} (d1 : decode (mb M) pc = .ok (.newarray at', 2)) (d4 : decode (mb M) (pc + 2) = .ok (.putfield i4, 3)) (hac : Cond.arrayClass ty ∈ tz) (hty : newarray.typeOf at' = ty) (ht0 : (zTys (gc Γ))[t0]? = some (gc Γ ca, ty)) (hk : (ty = .int ∧ ca = 11) ∨ (ty = .byte ∧ ca = 10) ∨ (ty = .boolean ∧ ca = 12) ∨ (ty = .long ∧ ca = 14)) (hn : n = nI N) (hN : N < 100000) (hpf : zPF (mo M) i4 ci k) (hi : zIs ci k = false) (hnm : (my M).name = "<init>") (ho : zIn S0.1 o ci) (hci : ci < 10) (h7 : ci ≠ 7) (h0 : Gr S0 S o ow0 ow val0 val) (hC : CI S ow val) (hf : cs + 1 ≤ R.cells ∧ sl + N ≤ R.slots)
    (kk : ∀ (q : Nat) (S' : Hs) (ow' : Ow) (val' : Nat → Nat), q ∉ zL S.1 → Gr S0 S' o ow0 ow' val0 val' → CI S' ow' val' → Fq S S' ci o k q val val' → zIn S'.1 q ca → zn S'.1 q = N → vA S'.2 q = (fun _ => 0) → (∀ b, b ∈ zL S.1 → vA S'.2 b = vA S.2 b) → zX Γ κ S' (cs + 1) (sl + N) Q (pc + 2 + 3) lv st) : zX Γ κ S cs sl Q pc lv (.int n :: .ref o :: st) := by
  refine z_newA (N := N) (ci := ca) (t0 := t0) F d1 hac hty ht0 hk hn hN hf (fun q hq _ => ?_)
  have hoS := h0.i ho
  have hca : ca = 10 ∨ ca = 11 ∨ ca = 12 ∨ ca = 14 := by omega
  have hG := Gr.arr (S := S) (N := N) (ow := ow) (val := val) hq hca
  have hC1 := hC.new (q := q) hq ca N
  have hq7 : zIn (zpN S.1 q ca N) q ca := ⟨(zpN_L _ _ _ _ _).mpr (Or.inr rfl), up_self _ _ _⟩
  obtain ⟨g1, g2, g3⟩ := Fq.mk h0 hG hC1 ho hci h7 hq hq7.1 (up_self _ _ _) (hG.2 q hq7.1 hq) k
  refine z_putR F d4 hpf hi hnm (hG.i hoS) ?_
  exact kk q _ _ _ hq g1 g2 g3 hq7 (up_self _ _ _) (up_self _ _ _) (fun b hb => vpN_A _ (fun e => hq (e ▸ hb)))
theorem z_pJ (F : zFx Γ κ M R) {i4 : Nat} {x : Int32} (d4 : decode (mb M) pc = .ok (.putfield i4, 3)) (hpf : zPF (mo M) i4 ci k) (hi : zIs ci k = true) (hfit : zFit ci k x) (hnm : (my M).name = "<init>") (ho : zIn S0.1 o ci) (h7 : ci ≠ 7) (h0 : Gr S0 S o ow0 ow val0 val) (hC : CI S ow val)
    (kk : ∀ (S' : Hs), Gr S0 S' o ow0 ow val0 val → CI S' ow val → Fi S S' ci o k x val val → (∀ b, vA S'.2 b = vA S.2 b) → zX Γ κ S' cs sl Q (pc + 3) lv st) : zX Γ κ S cs sl Q pc lv (.int x :: .ref o :: st) := by
  refine z_putF F d4 hpf hi hfit hnm (h0.i ho) ?_
  exact kk _ (h0.putI ho.1 k x) (hC.putI h7 k o x) ⟨vI_sI_self _ _ _ _ _, fun _ => rfl, fun c j h => vI_sI_ne _ _ (fun z => h ⟨z.1, z.2.1⟩), fun b c hb => ⟨hb, rfl, rfl⟩⟩ (fun _ => rfl)
/-- the model's addresses in order; their places -/
def mAd (o q1 q2 q3 q4 q5 q6 q7 q8 q9 q10 q11 : Nat) : Nat → Nat
  | 0 => o
  | 1 => q1
  | 2 => q2
  | 3 => q3
  | 4 => q4
  | 5 => q5
  | 6 => q6
  | 7 => q7
  | 8 => q8
  | 9 => q9
  | 10 => q10
  | 11 => q11
  | _ => 0
def mSl : Nat → Nat
  | 1 => 0
  | 2 => 1
  | 3 => 10
  | 4 => 11
  | 5 => 12
  | 6 => 13
  | 7 => 14
  | 8 => 15
  | 9 => 16
  | 10 => 19
  | 11 => 21
  | _ => 99
theorem mSl_inj : ∀ i, i < 12 → ∀ j, j < 12 → 1 ≤ i → 1 ≤ j → mSl i = mSl j → i = j := by decide
set_option maxRecDepth 100000 in
set_option maxHeartbeats 4000000 in
theorem c_initM (p : Int32) (hC : CI S ow val) (ho : zIn S.1 o 9) (hz : ∀ j, vI S.2 9 j o = 0) : zCt Γ mX10_init 2 43 11 4227 [.ref o, .int p] S (pV (fun S' => ∃ ow' val' a T L, Gr S S' o ow ow' val val' ∧ CI S' ow' val' ∧ a 0 = o ∧ mR S'.1 a ∧ rMT a S'.2 (cN p) T L St0)) := by
  refine zCt.of [some (.ref o), some (.int p), none] pn_X10_init rfl (Nat.le_of_ble_eq_true rfl) rfl (fun κ F => ?_)
  refine z_aload_n F dX10_init_0 rfl ?_
  refine z_obj F dX10_init_1 ml_X10_1 rfl ⟨Nat.le_of_ble_eq_true rfl, Nat.le_of_ble_eq_true rfl⟩ ?_
  refine z_aload_n F dX10_init_4 rfl ?_
  refine z_sipush (v := nI 3840) F dX10_init_5 (by decide) ?_
  refine z_nB (N := 3840) (ci := 9) (k := 0) (o := o) (S0 := S) (t0 := 1) (ca := 11) F dX10_init_8 dX10_init_10 ac_int rfl rfl (Or.inl ⟨rfl, rfl⟩) rfl (by decide) pf_X10_7 (by decide +kernel) rfl ho (by decide) (by decide) (Gr.refl S o ow val) hC ⟨by decide, by decide⟩ (fun q1 S1 ow1 val1 hn1 hG1 hC1 hF1 hq1 hz1 hv1 hA1 => ?_)
  refine z_aload_n F dX10_init_13 rfl ?_
  refine z_bipush (v := nI 112) F dX10_init_14 (by decide) ?_
  refine z_nB (N := 112) (ci := 9) (k := 1) (o := o) (S0 := S) (t0 := 2) (ca := 12) F dX10_init_16 dX10_init_18 ac_boolean rfl rfl (Or.inr (Or.inr (Or.inl ⟨rfl, rfl⟩))) rfl (by decide) pf_X10_13 (by decide +kernel) rfl ho (by decide) (by decide) hG1 hC1 ⟨by decide, by decide⟩ (fun q2 S2 ow2 val2 hn2 hG2 hC2 hF2 hq2 hz2 hv2 hA2 => ?_)
  refine z_aload_n F dX10_init_21 rfl ?_
  refine z_iconst (v := nI 5) F dX10_init_22 (by decide) ?_
  refine z_nB (N := 5) (ci := 9) (k := 10) (o := o) (S0 := S) (t0 := 1) (ca := 11) F dX10_init_23 dX10_init_25 ac_int rfl rfl (Or.inl ⟨rfl, rfl⟩) rfl (by decide) pf_X10_17 (by decide +kernel) rfl ho (by decide) (by decide) hG2 hC2 ⟨by decide, by decide⟩ (fun q3 S3 ow3 val3 hn3 hG3 hC3 hF3 hq3 hz3 hv3 hA3 => ?_)
  refine z_aload_n F dX10_init_28 rfl ?_
  refine z_iconst (v := nI 5) F dX10_init_29 (by decide) ?_
  refine z_nB (N := 5) (ci := 9) (k := 11) (o := o) (S0 := S) (t0 := 1) (ca := 11) F dX10_init_30 dX10_init_32 ac_int rfl rfl (Or.inl ⟨rfl, rfl⟩) rfl (by decide) pf_X10_20 (by decide +kernel) rfl ho (by decide) (by decide) hG3 hC3 ⟨by decide, by decide⟩ (fun q4 S4 ow4 val4 hn4 hG4 hC4 hF4 hq4 hz4 hv4 hA4 => ?_)
  refine z_aload_n F dX10_init_35 rfl ?_
  refine z_iconst (v := nI 5) F dX10_init_36 (by decide) ?_
  refine z_nB (N := 5) (ci := 9) (k := 12) (o := o) (S0 := S) (t0 := 1) (ca := 11) F dX10_init_37 dX10_init_39 ac_int rfl rfl (Or.inl ⟨rfl, rfl⟩) rfl (by decide) pf_X10_23 (by decide +kernel) rfl ho (by decide) (by decide) hG4 hC4 ⟨by decide, by decide⟩ (fun q5 S5 ow5 val5 hn5 hG5 hC5 hF5 hq5 hz5 hv5 hA5 => ?_)
  refine z_aload_n F dX10_init_42 rfl ?_
  refine z_iconst (v := nI 5) F dX10_init_43 (by decide) ?_
  refine z_nB (N := 5) (ci := 9) (k := 13) (o := o) (S0 := S) (t0 := 1) (ca := 11) F dX10_init_44 dX10_init_46 ac_int rfl rfl (Or.inl ⟨rfl, rfl⟩) rfl (by decide) pf_X10_26 (by decide +kernel) rfl ho (by decide) (by decide) hG5 hC5 ⟨by decide, by decide⟩ (fun q6 S6 ow6 val6 hn6 hG6 hC6 hF6 hq6 hz6 hv6 hA6 => ?_)
  refine z_aload_n F dX10_init_49 rfl ?_
  refine z_iconst (v := nI 5) F dX10_init_50 (by decide) ?_
  refine z_nB (N := 5) (ci := 9) (k := 14) (o := o) (S0 := S) (t0 := 1) (ca := 11) F dX10_init_51 dX10_init_53 ac_int rfl rfl (Or.inl ⟨rfl, rfl⟩) rfl (by decide) pf_X10_29 (by decide +kernel) rfl ho (by decide) (by decide) hG6 hC6 ⟨by decide, by decide⟩ (fun q7 S7 ow7 val7 hn7 hG7 hC7 hF7 hq7 hz7 hv7 hA7 => ?_)
  refine z_aload_n F dX10_init_56 rfl ?_
  refine z_iconst (v := nI 5) F dX10_init_57 (by decide) ?_
  refine z_nB (N := 5) (ci := 9) (k := 15) (o := o) (S0 := S) (t0 := 1) (ca := 11) F dX10_init_58 dX10_init_60 ac_int rfl rfl (Or.inl ⟨rfl, rfl⟩) rfl (by decide) pf_X10_32 (by decide +kernel) rfl ho (by decide) (by decide) hG7 hC7 ⟨by decide, by decide⟩ (fun q8 S8 ow8 val8 hn8 hG8 hC8 hF8 hq8 hz8 hv8 hA8 => ?_)
  refine z_aload_n F dX10_init_63 rfl ?_
  refine z_iconst (v := nI 5) F dX10_init_64 (by decide) ?_
  refine z_nB (N := 5) (ci := 9) (k := 16) (o := o) (S0 := S) (t0 := 1) (ca := 11) F dX10_init_65 dX10_init_67 ac_int rfl rfl (Or.inl ⟨rfl, rfl⟩) rfl (by decide) pf_X10_35 (by decide +kernel) rfl ho (by decide) (by decide) hG8 hC8 ⟨by decide, by decide⟩ (fun q9 S9 ow9 val9 hn9 hG9 hC9 hF9 hq9 hz9 hv9 hA9 => ?_)
  refine z_aload_n F dX10_init_70 rfl ?_
  refine z_bipush (v := nI 120) F dX10_init_71 (by decide) ?_
  refine z_nB (N := 120) (ci := 9) (k := 19) (o := o) (S0 := S) (t0 := 1) (ca := 11) F dX10_init_73 dX10_init_75 ac_int rfl rfl (Or.inl ⟨rfl, rfl⟩) rfl (by decide) pf_X10_38 (by decide +kernel) rfl ho (by decide) (by decide) hG9 hC9 ⟨by decide, by decide⟩ (fun q10 S10 ow10 val10 hn10 hG10 hC10 hF10 hq10 hz10 hv10 hA10 => ?_)
  refine z_aload_n F dX10_init_78 rfl ?_
  refine z_bipush (v := nI 120) F dX10_init_79 (by decide) ?_
  refine z_nB (N := 120) (ci := 9) (k := 21) (o := o) (S0 := S) (t0 := 1) (ca := 11) F dX10_init_81 dX10_init_83 ac_int rfl rfl (Or.inl ⟨rfl, rfl⟩) rfl (by decide) pf_X10_41 (by decide +kernel) rfl ho (by decide) (by decide) hG10 hC10 ⟨by decide, by decide⟩ (fun q11 S11 ow11 val11 hn11 hG11 hC11 hF11 hq11 hz11 hv11 hA11 => ?_)
  refine z_aload_n F dX10_init_86 rfl ?_
  have put : zX Γ κ S11 (0 + 1 + 1 + 1 + 1 + 1 + 1 + 1 + 1 + 1 + 1 + 1) (0 + 3840 + 112 + 5 + 5 + 5 + 5 + 5 + 5 + 5 + 120 + 120) (zQ Γ κ (pV (fun S' => ∃ ow' val' a T L, Gr S S' o ow ow' val val' ∧ CI S' ow' val' ∧ a 0 = o ∧ mR S'.1 a ∧ rMT a S'.2 (cN p) T L St0)) 11 4227) 106 [some (.ref o), some (.int p), none] [.int (nI (cN p)), .ref o] := by
    refine z_pJ (ci := 9) (k := 2) (o := o) (S0 := S) F dX10_init_106 pf_X10_44 (by decide +kernel) (zf_9_2 _) rfl ho (by decide) hG11 hC11 (fun S12 hG12 hC12 hF12 hV12 => ?_)
    have r1 : zR S12.1 9 0 o = some q1 := by rw [hF12.2.1 0, hF11.2.1 0 (by decide), hF10.2.1 0 (by decide), hF9.2.1 0 (by decide), hF8.2.1 0 (by decide), hF7.2.1 0 (by decide), hF6.2.1 0 (by decide), hF5.2.1 0 (by decide), hF4.2.1 0 (by decide), hF3.2.1 0 (by decide), hF2.2.1 0 (by decide)]; exact hF1.1
    have i1 : zIn S12.1 q1 11 := (hF12.2.2.2 _ _ (hF11.2.2.2 _ _ (hF10.2.2.2 _ _ (hF9.2.2.2 _ _ (hF8.2.2.2 _ _ (hF7.2.2.2 _ _ (hF6.2.2.2 _ _ (hF5.2.2.2 _ _ (hF4.2.2.2 _ _ (hF3.2.2.2 _ _ (hF2.2.2.2 _ _ hq1).1).1).1).1).1).1).1).1).1).1).1
    have n1 : zn S12.1 q1 = 3840 := by rw [(hF12.2.2.2 _ _ (hF11.2.2.2 _ _ (hF10.2.2.2 _ _ (hF9.2.2.2 _ _ (hF8.2.2.2 _ _ (hF7.2.2.2 _ _ (hF6.2.2.2 _ _ (hF5.2.2.2 _ _ (hF4.2.2.2 _ _ (hF3.2.2.2 _ _ (hF2.2.2.2 _ _ hq1).1).1).1).1).1).1).1).1).1).1).2.1, (hF11.2.2.2 _ _ (hF10.2.2.2 _ _ (hF9.2.2.2 _ _ (hF8.2.2.2 _ _ (hF7.2.2.2 _ _ (hF6.2.2.2 _ _ (hF5.2.2.2 _ _ (hF4.2.2.2 _ _ (hF3.2.2.2 _ _ (hF2.2.2.2 _ _ hq1).1).1).1).1).1).1).1).1).1).2.1, (hF10.2.2.2 _ _ (hF9.2.2.2 _ _ (hF8.2.2.2 _ _ (hF7.2.2.2 _ _ (hF6.2.2.2 _ _ (hF5.2.2.2 _ _ (hF4.2.2.2 _ _ (hF3.2.2.2 _ _ (hF2.2.2.2 _ _ hq1).1).1).1).1).1).1).1).1).2.1, (hF9.2.2.2 _ _ (hF8.2.2.2 _ _ (hF7.2.2.2 _ _ (hF6.2.2.2 _ _ (hF5.2.2.2 _ _ (hF4.2.2.2 _ _ (hF3.2.2.2 _ _ (hF2.2.2.2 _ _ hq1).1).1).1).1).1).1).1).2.1, (hF8.2.2.2 _ _ (hF7.2.2.2 _ _ (hF6.2.2.2 _ _ (hF5.2.2.2 _ _ (hF4.2.2.2 _ _ (hF3.2.2.2 _ _ (hF2.2.2.2 _ _ hq1).1).1).1).1).1).1).2.1, (hF7.2.2.2 _ _ (hF6.2.2.2 _ _ (hF5.2.2.2 _ _ (hF4.2.2.2 _ _ (hF3.2.2.2 _ _ (hF2.2.2.2 _ _ hq1).1).1).1).1).1).2.1, (hF6.2.2.2 _ _ (hF5.2.2.2 _ _ (hF4.2.2.2 _ _ (hF3.2.2.2 _ _ (hF2.2.2.2 _ _ hq1).1).1).1).1).2.1, (hF5.2.2.2 _ _ (hF4.2.2.2 _ _ (hF3.2.2.2 _ _ (hF2.2.2.2 _ _ hq1).1).1).1).2.1, (hF4.2.2.2 _ _ (hF3.2.2.2 _ _ (hF2.2.2.2 _ _ hq1).1).1).2.1, (hF3.2.2.2 _ _ (hF2.2.2.2 _ _ hq1).1).2.1, (hF2.2.2.2 _ _ hq1).2.1]; exact hz1
    have r2 : zR S12.1 9 1 o = some q2 := by rw [hF12.2.1 1, hF11.2.1 1 (by decide), hF10.2.1 1 (by decide), hF9.2.1 1 (by decide), hF8.2.1 1 (by decide), hF7.2.1 1 (by decide), hF6.2.1 1 (by decide), hF5.2.1 1 (by decide), hF4.2.1 1 (by decide), hF3.2.1 1 (by decide)]; exact hF2.1
    have i2 : zIn S12.1 q2 12 := (hF12.2.2.2 _ _ (hF11.2.2.2 _ _ (hF10.2.2.2 _ _ (hF9.2.2.2 _ _ (hF8.2.2.2 _ _ (hF7.2.2.2 _ _ (hF6.2.2.2 _ _ (hF5.2.2.2 _ _ (hF4.2.2.2 _ _ (hF3.2.2.2 _ _ hq2).1).1).1).1).1).1).1).1).1).1
    have n2 : zn S12.1 q2 = 112 := by rw [(hF12.2.2.2 _ _ (hF11.2.2.2 _ _ (hF10.2.2.2 _ _ (hF9.2.2.2 _ _ (hF8.2.2.2 _ _ (hF7.2.2.2 _ _ (hF6.2.2.2 _ _ (hF5.2.2.2 _ _ (hF4.2.2.2 _ _ (hF3.2.2.2 _ _ hq2).1).1).1).1).1).1).1).1).1).2.1, (hF11.2.2.2 _ _ (hF10.2.2.2 _ _ (hF9.2.2.2 _ _ (hF8.2.2.2 _ _ (hF7.2.2.2 _ _ (hF6.2.2.2 _ _ (hF5.2.2.2 _ _ (hF4.2.2.2 _ _ (hF3.2.2.2 _ _ hq2).1).1).1).1).1).1).1).1).2.1, (hF10.2.2.2 _ _ (hF9.2.2.2 _ _ (hF8.2.2.2 _ _ (hF7.2.2.2 _ _ (hF6.2.2.2 _ _ (hF5.2.2.2 _ _ (hF4.2.2.2 _ _ (hF3.2.2.2 _ _ hq2).1).1).1).1).1).1).1).2.1, (hF9.2.2.2 _ _ (hF8.2.2.2 _ _ (hF7.2.2.2 _ _ (hF6.2.2.2 _ _ (hF5.2.2.2 _ _ (hF4.2.2.2 _ _ (hF3.2.2.2 _ _ hq2).1).1).1).1).1).1).2.1, (hF8.2.2.2 _ _ (hF7.2.2.2 _ _ (hF6.2.2.2 _ _ (hF5.2.2.2 _ _ (hF4.2.2.2 _ _ (hF3.2.2.2 _ _ hq2).1).1).1).1).1).2.1, (hF7.2.2.2 _ _ (hF6.2.2.2 _ _ (hF5.2.2.2 _ _ (hF4.2.2.2 _ _ (hF3.2.2.2 _ _ hq2).1).1).1).1).2.1, (hF6.2.2.2 _ _ (hF5.2.2.2 _ _ (hF4.2.2.2 _ _ (hF3.2.2.2 _ _ hq2).1).1).1).2.1, (hF5.2.2.2 _ _ (hF4.2.2.2 _ _ (hF3.2.2.2 _ _ hq2).1).1).2.1, (hF4.2.2.2 _ _ (hF3.2.2.2 _ _ hq2).1).2.1, (hF3.2.2.2 _ _ hq2).2.1]; exact hz2
    have r3 : zR S12.1 9 10 o = some q3 := by rw [hF12.2.1 10, hF11.2.1 10 (by decide), hF10.2.1 10 (by decide), hF9.2.1 10 (by decide), hF8.2.1 10 (by decide), hF7.2.1 10 (by decide), hF6.2.1 10 (by decide), hF5.2.1 10 (by decide), hF4.2.1 10 (by decide)]; exact hF3.1
    have i3 : zIn S12.1 q3 11 := (hF12.2.2.2 _ _ (hF11.2.2.2 _ _ (hF10.2.2.2 _ _ (hF9.2.2.2 _ _ (hF8.2.2.2 _ _ (hF7.2.2.2 _ _ (hF6.2.2.2 _ _ (hF5.2.2.2 _ _ (hF4.2.2.2 _ _ hq3).1).1).1).1).1).1).1).1).1
    have n3 : zn S12.1 q3 = 5 := by rw [(hF12.2.2.2 _ _ (hF11.2.2.2 _ _ (hF10.2.2.2 _ _ (hF9.2.2.2 _ _ (hF8.2.2.2 _ _ (hF7.2.2.2 _ _ (hF6.2.2.2 _ _ (hF5.2.2.2 _ _ (hF4.2.2.2 _ _ hq3).1).1).1).1).1).1).1).1).2.1, (hF11.2.2.2 _ _ (hF10.2.2.2 _ _ (hF9.2.2.2 _ _ (hF8.2.2.2 _ _ (hF7.2.2.2 _ _ (hF6.2.2.2 _ _ (hF5.2.2.2 _ _ (hF4.2.2.2 _ _ hq3).1).1).1).1).1).1).1).2.1, (hF10.2.2.2 _ _ (hF9.2.2.2 _ _ (hF8.2.2.2 _ _ (hF7.2.2.2 _ _ (hF6.2.2.2 _ _ (hF5.2.2.2 _ _ (hF4.2.2.2 _ _ hq3).1).1).1).1).1).1).2.1, (hF9.2.2.2 _ _ (hF8.2.2.2 _ _ (hF7.2.2.2 _ _ (hF6.2.2.2 _ _ (hF5.2.2.2 _ _ (hF4.2.2.2 _ _ hq3).1).1).1).1).1).2.1, (hF8.2.2.2 _ _ (hF7.2.2.2 _ _ (hF6.2.2.2 _ _ (hF5.2.2.2 _ _ (hF4.2.2.2 _ _ hq3).1).1).1).1).2.1, (hF7.2.2.2 _ _ (hF6.2.2.2 _ _ (hF5.2.2.2 _ _ (hF4.2.2.2 _ _ hq3).1).1).1).2.1, (hF6.2.2.2 _ _ (hF5.2.2.2 _ _ (hF4.2.2.2 _ _ hq3).1).1).2.1, (hF5.2.2.2 _ _ (hF4.2.2.2 _ _ hq3).1).2.1, (hF4.2.2.2 _ _ hq3).2.1]; exact hz3
    have r4 : zR S12.1 9 11 o = some q4 := by rw [hF12.2.1 11, hF11.2.1 11 (by decide), hF10.2.1 11 (by decide), hF9.2.1 11 (by decide), hF8.2.1 11 (by decide), hF7.2.1 11 (by decide), hF6.2.1 11 (by decide), hF5.2.1 11 (by decide)]; exact hF4.1
    have i4 : zIn S12.1 q4 11 := (hF12.2.2.2 _ _ (hF11.2.2.2 _ _ (hF10.2.2.2 _ _ (hF9.2.2.2 _ _ (hF8.2.2.2 _ _ (hF7.2.2.2 _ _ (hF6.2.2.2 _ _ (hF5.2.2.2 _ _ hq4).1).1).1).1).1).1).1).1
    have n4 : zn S12.1 q4 = 5 := by rw [(hF12.2.2.2 _ _ (hF11.2.2.2 _ _ (hF10.2.2.2 _ _ (hF9.2.2.2 _ _ (hF8.2.2.2 _ _ (hF7.2.2.2 _ _ (hF6.2.2.2 _ _ (hF5.2.2.2 _ _ hq4).1).1).1).1).1).1).1).2.1, (hF11.2.2.2 _ _ (hF10.2.2.2 _ _ (hF9.2.2.2 _ _ (hF8.2.2.2 _ _ (hF7.2.2.2 _ _ (hF6.2.2.2 _ _ (hF5.2.2.2 _ _ hq4).1).1).1).1).1).1).2.1, (hF10.2.2.2 _ _ (hF9.2.2.2 _ _ (hF8.2.2.2 _ _ (hF7.2.2.2 _ _ (hF6.2.2.2 _ _ (hF5.2.2.2 _ _ hq4).1).1).1).1).1).2.1, (hF9.2.2.2 _ _ (hF8.2.2.2 _ _ (hF7.2.2.2 _ _ (hF6.2.2.2 _ _ (hF5.2.2.2 _ _ hq4).1).1).1).1).2.1, (hF8.2.2.2 _ _ (hF7.2.2.2 _ _ (hF6.2.2.2 _ _ (hF5.2.2.2 _ _ hq4).1).1).1).2.1, (hF7.2.2.2 _ _ (hF6.2.2.2 _ _ (hF5.2.2.2 _ _ hq4).1).1).2.1, (hF6.2.2.2 _ _ (hF5.2.2.2 _ _ hq4).1).2.1, (hF5.2.2.2 _ _ hq4).2.1]; exact hz4
    have r5 : zR S12.1 9 12 o = some q5 := by rw [hF12.2.1 12, hF11.2.1 12 (by decide), hF10.2.1 12 (by decide), hF9.2.1 12 (by decide), hF8.2.1 12 (by decide), hF7.2.1 12 (by decide), hF6.2.1 12 (by decide)]; exact hF5.1
    have i5 : zIn S12.1 q5 11 := (hF12.2.2.2 _ _ (hF11.2.2.2 _ _ (hF10.2.2.2 _ _ (hF9.2.2.2 _ _ (hF8.2.2.2 _ _ (hF7.2.2.2 _ _ (hF6.2.2.2 _ _ hq5).1).1).1).1).1).1).1
    have n5 : zn S12.1 q5 = 5 := by rw [(hF12.2.2.2 _ _ (hF11.2.2.2 _ _ (hF10.2.2.2 _ _ (hF9.2.2.2 _ _ (hF8.2.2.2 _ _ (hF7.2.2.2 _ _ (hF6.2.2.2 _ _ hq5).1).1).1).1).1).1).2.1, (hF11.2.2.2 _ _ (hF10.2.2.2 _ _ (hF9.2.2.2 _ _ (hF8.2.2.2 _ _ (hF7.2.2.2 _ _ (hF6.2.2.2 _ _ hq5).1).1).1).1).1).2.1, (hF10.2.2.2 _ _ (hF9.2.2.2 _ _ (hF8.2.2.2 _ _ (hF7.2.2.2 _ _ (hF6.2.2.2 _ _ hq5).1).1).1).1).2.1, (hF9.2.2.2 _ _ (hF8.2.2.2 _ _ (hF7.2.2.2 _ _ (hF6.2.2.2 _ _ hq5).1).1).1).2.1, (hF8.2.2.2 _ _ (hF7.2.2.2 _ _ (hF6.2.2.2 _ _ hq5).1).1).2.1, (hF7.2.2.2 _ _ (hF6.2.2.2 _ _ hq5).1).2.1, (hF6.2.2.2 _ _ hq5).2.1]; exact hz5
    have r6 : zR S12.1 9 13 o = some q6 := by rw [hF12.2.1 13, hF11.2.1 13 (by decide), hF10.2.1 13 (by decide), hF9.2.1 13 (by decide), hF8.2.1 13 (by decide), hF7.2.1 13 (by decide)]; exact hF6.1
    have i6 : zIn S12.1 q6 11 := (hF12.2.2.2 _ _ (hF11.2.2.2 _ _ (hF10.2.2.2 _ _ (hF9.2.2.2 _ _ (hF8.2.2.2 _ _ (hF7.2.2.2 _ _ hq6).1).1).1).1).1).1
    have n6 : zn S12.1 q6 = 5 := by rw [(hF12.2.2.2 _ _ (hF11.2.2.2 _ _ (hF10.2.2.2 _ _ (hF9.2.2.2 _ _ (hF8.2.2.2 _ _ (hF7.2.2.2 _ _ hq6).1).1).1).1).1).2.1, (hF11.2.2.2 _ _ (hF10.2.2.2 _ _ (hF9.2.2.2 _ _ (hF8.2.2.2 _ _ (hF7.2.2.2 _ _ hq6).1).1).1).1).2.1, (hF10.2.2.2 _ _ (hF9.2.2.2 _ _ (hF8.2.2.2 _ _ (hF7.2.2.2 _ _ hq6).1).1).1).2.1, (hF9.2.2.2 _ _ (hF8.2.2.2 _ _ (hF7.2.2.2 _ _ hq6).1).1).2.1, (hF8.2.2.2 _ _ (hF7.2.2.2 _ _ hq6).1).2.1, (hF7.2.2.2 _ _ hq6).2.1]; exact hz6
    have r7 : zR S12.1 9 14 o = some q7 := by rw [hF12.2.1 14, hF11.2.1 14 (by decide), hF10.2.1 14 (by decide), hF9.2.1 14 (by decide), hF8.2.1 14 (by decide)]; exact hF7.1
    have i7 : zIn S12.1 q7 11 := (hF12.2.2.2 _ _ (hF11.2.2.2 _ _ (hF10.2.2.2 _ _ (hF9.2.2.2 _ _ (hF8.2.2.2 _ _ hq7).1).1).1).1).1
    have n7 : zn S12.1 q7 = 5 := by rw [(hF12.2.2.2 _ _ (hF11.2.2.2 _ _ (hF10.2.2.2 _ _ (hF9.2.2.2 _ _ (hF8.2.2.2 _ _ hq7).1).1).1).1).2.1, (hF11.2.2.2 _ _ (hF10.2.2.2 _ _ (hF9.2.2.2 _ _ (hF8.2.2.2 _ _ hq7).1).1).1).2.1, (hF10.2.2.2 _ _ (hF9.2.2.2 _ _ (hF8.2.2.2 _ _ hq7).1).1).2.1, (hF9.2.2.2 _ _ (hF8.2.2.2 _ _ hq7).1).2.1, (hF8.2.2.2 _ _ hq7).2.1]; exact hz7
    have r8 : zR S12.1 9 15 o = some q8 := by rw [hF12.2.1 15, hF11.2.1 15 (by decide), hF10.2.1 15 (by decide), hF9.2.1 15 (by decide)]; exact hF8.1
    have i8 : zIn S12.1 q8 11 := (hF12.2.2.2 _ _ (hF11.2.2.2 _ _ (hF10.2.2.2 _ _ (hF9.2.2.2 _ _ hq8).1).1).1).1
    have n8 : zn S12.1 q8 = 5 := by rw [(hF12.2.2.2 _ _ (hF11.2.2.2 _ _ (hF10.2.2.2 _ _ (hF9.2.2.2 _ _ hq8).1).1).1).2.1, (hF11.2.2.2 _ _ (hF10.2.2.2 _ _ (hF9.2.2.2 _ _ hq8).1).1).2.1, (hF10.2.2.2 _ _ (hF9.2.2.2 _ _ hq8).1).2.1, (hF9.2.2.2 _ _ hq8).2.1]; exact hz8
    have r9 : zR S12.1 9 16 o = some q9 := by rw [hF12.2.1 16, hF11.2.1 16 (by decide), hF10.2.1 16 (by decide)]; exact hF9.1
    have i9 : zIn S12.1 q9 11 := (hF12.2.2.2 _ _ (hF11.2.2.2 _ _ (hF10.2.2.2 _ _ hq9).1).1).1
    have n9 : zn S12.1 q9 = 5 := by rw [(hF12.2.2.2 _ _ (hF11.2.2.2 _ _ (hF10.2.2.2 _ _ hq9).1).1).2.1, (hF11.2.2.2 _ _ (hF10.2.2.2 _ _ hq9).1).2.1, (hF10.2.2.2 _ _ hq9).2.1]; exact hz9
    have r10 : zR S12.1 9 19 o = some q10 := by rw [hF12.2.1 19, hF11.2.1 19 (by decide)]; exact hF10.1
    have i10 : zIn S12.1 q10 11 := (hF12.2.2.2 _ _ (hF11.2.2.2 _ _ hq10).1).1
    have n10 : zn S12.1 q10 = 120 := by rw [(hF12.2.2.2 _ _ (hF11.2.2.2 _ _ hq10).1).2.1, (hF11.2.2.2 _ _ hq10).2.1]; exact hz10
    have r11 : zR S12.1 9 21 o = some q11 := by rw [hF12.2.1 21]; exact hF11.1
    have i11 : zIn S12.1 q11 11 := (hF12.2.2.2 _ _ hq11).1
    have n11 : zn S12.1 q11 = 120 := by rw [(hF12.2.2.2 _ _ hq11).2.1]; exact hz11
    have fo : ∀ j, j ≠ 2 → vI S12.2 9 j o = 0 := fun j h => by rw [hF12.2.2.1 9 j (fun z => h z.2), hF11.2.2.1 9 j, hF10.2.2.1 9 j, hF9.2.2.1 9 j, hF8.2.2.1 9 j, hF7.2.2.1 9 j, hF6.2.2.1 9 j, hF5.2.2.1 9 j, hF4.2.2.1 9 j, hF3.2.2.1 9 j, hF2.2.2.1 9 j, hF1.2.2.1 9 j]; exact hz j
    have ho12 := hG12.i ho
    obtain ⟨a, ha⟩ : ∃ a, a = mAd o q1 q2 q3 q4 q5 q6 q7 q8 q9 q10 q11 := ⟨_, rfl⟩
    have own : ∀ i, i < 12 → 1 ≤ i → zR S12.1 9 (mSl i) o = some (a i) ∧ zK S12.1 (a i) ≠ 0 := by
      intro i h1 h2
      rw [ha]
      match i, h1, h2 with
      | 1, _, _ => exact ⟨r1, by show zK S12.1 q1 ≠ 0; rw [i1.2]; decide⟩
      | 2, _, _ => exact ⟨r2, by show zK S12.1 q2 ≠ 0; rw [i2.2]; decide⟩
      | 3, _, _ => exact ⟨r3, by show zK S12.1 q3 ≠ 0; rw [i3.2]; decide⟩
      | 4, _, _ => exact ⟨r4, by show zK S12.1 q4 ≠ 0; rw [i4.2]; decide⟩
      | 5, _, _ => exact ⟨r5, by show zK S12.1 q5 ≠ 0; rw [i5.2]; decide⟩
      | 6, _, _ => exact ⟨r6, by show zK S12.1 q6 ≠ 0; rw [i6.2]; decide⟩
      | 7, _, _ => exact ⟨r7, by show zK S12.1 q7 ≠ 0; rw [i7.2]; decide⟩
      | 8, _, _ => exact ⟨r8, by show zK S12.1 q8 ≠ 0; rw [i8.2]; decide⟩
      | 9, _, _ => exact ⟨r9, by show zK S12.1 q9 ≠ 0; rw [i9.2]; decide⟩
      | 10, _, _ => exact ⟨r10, by show zK S12.1 q10 ≠ 0; rw [i10.2]; decide⟩
      | 11, _, _ => exact ⟨r11, by show zK S12.1 q11 ≠ 0; rw [i11.2]; decide⟩
    have inj : ∀ i j, 1 ≤ i → i ≤ 11 → 1 ≤ j → j ≤ 11 → a i = a j → i = j := by
      intro i j h1 h2 h3 h4 e
      obtain ⟨e1, k1⟩ := own i (by omega) h1
      obtain ⟨e2, k2⟩ := own j (by omega) h3
      have o1 := (hC12.1 o (mSl i) (a i) ho12.1 (by unfold rf; rw [ho12.2]; exact e1)).2.resolve_left k1
      have o2 := (hC12.1 o (mSl j) (a j) ho12.1 (by unfold rf; rw [ho12.2]; exact e2)).2.resolve_left k2
      rw [e, o2] at o1
      injection o1 with o1
      injection o1 with _ o3
      exact (mSl_inj j (by omega) i (by omega) h3 h1 o3).symm
    have hmR : mR S12.1 a := by
      refine ⟨?_, ?_, fun k h1 h2 => ?_, ?_, inj⟩
      · rw [ha]; exact ⟨ho12, r1, r2, r3, r4, r5, r6, r7, r8, r9, r10, r11⟩
      · rw [ha]; exact ⟨i1, n1, i2, n2⟩
      · rw [ha]
        match k, h1, h2 with
        | 3, _, _ => exact ⟨i3, n3⟩
        | 4, _, _ => exact ⟨i4, n4⟩
        | 5, _, _ => exact ⟨i5, n5⟩
        | 6, _, _ => exact ⟨i6, n6⟩
        | 7, _, _ => exact ⟨i7, n7⟩
        | 8, _, _ => exact ⟨i8, n8⟩
        | 9, _, _ => exact ⟨i9, n9⟩
      · rw [ha]; exact ⟨i10, n10, i11, n11⟩
    have fr : ∀ i, i < 12 → 1 ≤ i → a i ∉ zL S.1 := by
      intro i h1 h2 hm
      obtain ⟨e1, k1⟩ := own i h1 h2
      have o1 := (hC12.1 o (mSl i) (a i) ho12.1 (by unfold rf; rw [ho12.2]; exact e1)).2.resolve_left k1
      rw [ha] at hm
      match i, h1, h2, hm with
      | 1, _, _, hm => exact hn1 hm
      | 2, _, _, hm => exact hn2 (hG1.1 _ hm).1
      | 3, _, _, hm => exact hn3 (hG2.1 _ hm).1
      | 4, _, _, hm => exact hn4 (hG3.1 _ hm).1
      | 5, _, _, hm => exact hn5 (hG4.1 _ hm).1
      | 6, _, _, hm => exact hn6 (hG5.1 _ hm).1
      | 7, _, _, hm => exact hn7 (hG6.1 _ hm).1
      | 8, _, _, hm => exact hn8 (hG7.1 _ hm).1
      | 9, _, _, hm => exact hn9 (hG8.1 _ hm).1
      | 10, _, _, hm => exact hn10 (hG9.1 _ hm).1
      | 11, _, _, hm => exact hn11 (hG10.1 _ hm).1
    have w1 : vA S11.2 q1 = fun _ => 0 := by rw [hA11 q1 (hF10.2.2.2 _ _ (hF9.2.2.2 _ _ (hF8.2.2.2 _ _ (hF7.2.2.2 _ _ (hF6.2.2.2 _ _ (hF5.2.2.2 _ _ (hF4.2.2.2 _ _ (hF3.2.2.2 _ _ (hF2.2.2.2 _ _ hq1).1).1).1).1).1).1).1).1).1.1, hA10 q1 (hF9.2.2.2 _ _ (hF8.2.2.2 _ _ (hF7.2.2.2 _ _ (hF6.2.2.2 _ _ (hF5.2.2.2 _ _ (hF4.2.2.2 _ _ (hF3.2.2.2 _ _ (hF2.2.2.2 _ _ hq1).1).1).1).1).1).1).1).1.1, hA9 q1 (hF8.2.2.2 _ _ (hF7.2.2.2 _ _ (hF6.2.2.2 _ _ (hF5.2.2.2 _ _ (hF4.2.2.2 _ _ (hF3.2.2.2 _ _ (hF2.2.2.2 _ _ hq1).1).1).1).1).1).1).1.1, hA8 q1 (hF7.2.2.2 _ _ (hF6.2.2.2 _ _ (hF5.2.2.2 _ _ (hF4.2.2.2 _ _ (hF3.2.2.2 _ _ (hF2.2.2.2 _ _ hq1).1).1).1).1).1).1.1, hA7 q1 (hF6.2.2.2 _ _ (hF5.2.2.2 _ _ (hF4.2.2.2 _ _ (hF3.2.2.2 _ _ (hF2.2.2.2 _ _ hq1).1).1).1).1).1.1, hA6 q1 (hF5.2.2.2 _ _ (hF4.2.2.2 _ _ (hF3.2.2.2 _ _ (hF2.2.2.2 _ _ hq1).1).1).1).1.1, hA5 q1 (hF4.2.2.2 _ _ (hF3.2.2.2 _ _ (hF2.2.2.2 _ _ hq1).1).1).1.1, hA4 q1 (hF3.2.2.2 _ _ (hF2.2.2.2 _ _ hq1).1).1.1, hA3 q1 (hF2.2.2.2 _ _ hq1).1.1, hA2 q1 hq1.1]; exact hv1
    have w2 : vA S11.2 q2 = fun _ => 0 := by rw [hA11 q2 (hF10.2.2.2 _ _ (hF9.2.2.2 _ _ (hF8.2.2.2 _ _ (hF7.2.2.2 _ _ (hF6.2.2.2 _ _ (hF5.2.2.2 _ _ (hF4.2.2.2 _ _ (hF3.2.2.2 _ _ hq2).1).1).1).1).1).1).1).1.1, hA10 q2 (hF9.2.2.2 _ _ (hF8.2.2.2 _ _ (hF7.2.2.2 _ _ (hF6.2.2.2 _ _ (hF5.2.2.2 _ _ (hF4.2.2.2 _ _ (hF3.2.2.2 _ _ hq2).1).1).1).1).1).1).1.1, hA9 q2 (hF8.2.2.2 _ _ (hF7.2.2.2 _ _ (hF6.2.2.2 _ _ (hF5.2.2.2 _ _ (hF4.2.2.2 _ _ (hF3.2.2.2 _ _ hq2).1).1).1).1).1).1.1, hA8 q2 (hF7.2.2.2 _ _ (hF6.2.2.2 _ _ (hF5.2.2.2 _ _ (hF4.2.2.2 _ _ (hF3.2.2.2 _ _ hq2).1).1).1).1).1.1, hA7 q2 (hF6.2.2.2 _ _ (hF5.2.2.2 _ _ (hF4.2.2.2 _ _ (hF3.2.2.2 _ _ hq2).1).1).1).1.1, hA6 q2 (hF5.2.2.2 _ _ (hF4.2.2.2 _ _ (hF3.2.2.2 _ _ hq2).1).1).1.1, hA5 q2 (hF4.2.2.2 _ _ (hF3.2.2.2 _ _ hq2).1).1.1, hA4 q2 (hF3.2.2.2 _ _ hq2).1.1, hA3 q2 hq2.1]; exact hv2
    have c1 : vA S12.2 (a 1) = fun _ => 0 := by rw [ha]; exact (hV12 q1).trans w1
    have c2 : vA S12.2 (a 2) = fun _ => 0 := by rw [ha]; exact (hV12 q2).trans w2
    have a0 : a 0 = o := by rw [ha]; rfl
    have ho9 : zIn S12.1 (a 0) 9 := by rw [a0]; exact ho12
    have hL0 : mL a S12.2 (fun _ => (false, 0, 0)) (fun _ => 0) := by
      refine ⟨⟨fun s j hs hj => ?_, fun s hs => dgp 16⟩, fun f hf => ⟨rfl, rfl, ?_⟩⟩
      · rw [c1, dg_0]; rfl
      · rw [c2]; rfl
    have loop : ∀ (d f : Nat) (V : Hv) (T : Nat → Fr) (L : Nat → Nat), f + d = 112 → e2A a S12.2 V → mL a V T L → (∀ q, q < f → T q = f0) → zX Γ κ (S12.1, V) (0 + 1 + 1 + 1 + 1 + 1 + 1 + 1 + 1 + 1 + 1 + 1) (0 + 3840 + 112 + 5 + 5 + 5 + 5 + 5 + 5 + 5 + 120 + 120) (zQ Γ κ (pV (fun S' => ∃ ow' val' a T L, Gr S S' o ow ow' val val' ∧ CI S' ow' val' ∧ a 0 = o ∧ mR S'.1 a ∧ rMT a S'.2 (cN p) T L St0)) 11 4227) 111 [some (.ref o), some (.int p), some (.int (nI f))] [] := by
      intro d
      induction d with
      | zero =>
        intro f V T L hf hE hL hT
        refine z_iload_n F dX10_init_111 rfl ?_
        refine z_bipush (v := nI 112) F dX10_init_112 (by decide) ?_
        refine z_icmp_ge (tgt := 128) F dX10_init_114 (by decide) (fun c => ?_) (fun c => ?_)
        · have hGV : Gr S (S12.1, V) o ow ow11 val val11 := hG12.setV (fun c k b => hE.i c k b) (fun b hb => hE.2.1 b (fun z => by
            rcases z with z | z
            · exact fr 1 (by decide) (by decide) (z ▸ hb)
            · exact fr 2 (by decide) (by decide) (z ▸ hb))) hE.2.2
          have hCV : CI (S12.1, V) ow11 val11 := hC12.setV (fun c k b => hE.i c k b) (fun x g w => hE.2.1 g (fun z => by
            have k0 : zK S12.1 g ≠ 0 := by rw [w.2.2.1.2]; decide
            have o1 := (hC12.1 x 0 g w.1.1 (by unfold rf; rw [w.1.2]; exact w.2.1)).2.resolve_left k0
            have no : ∀ i, i < 12 → 1 ≤ i → g ≠ a i := fun i h1 h2 e => by
              obtain ⟨e1, k1⟩ := own i h1 h2
              have o2 := (hC12.1 o (mSl i) (a i) ho12.1 (by unfold rf; rw [ho12.2]; exact e1)).2.resolve_left k1
              rw [← e, o1] at o2
              injection o2 with o2
              injection o2 with o3
              have k7 := w.1.2
              rw [o3, ho12.2] at k7
              cases k7
            rcases z with z | z
            · exact no 1 (by decide) (by decide) z
            · exact no 2 (by decide) (by decide) z))
          have gv : ∀ j, j ≠ 2 → vI V 9 j (a 0) = 0 := fun j hj => by rw [hE.i, a0]; exact fo j hj
          have hM : rMT a V (cN p) T L St0 := by
            refine ⟨cN_ok p, hL, ⟨⟨?_, gv 3 (by decide), Nat.zero_le _, gv 4 (by decide), gv 5 (by decide)⟩, ⟨gv 7 (by decide), (fun v hv => nomatch hv)⟩, gv 20 (by decide), Nat.zero_le _, fun i hi => absurd hi (Nat.not_lt_zero i)⟩, fun i hi => absurd hi (Nat.not_lt_zero i), fun p' k hp hk => ?_, (fun v hv => nomatch hv), ?_⟩
            · rw [hE.i, a0]; exact hF12.1
            · have := cN_ok p
              exact hT _ (by omega)
            · exact hT 111 (by omega)
          exact z_vret F dX10_init_128 rfl ⟨ow11, val11, a, T, L, hGV, hCV, a0, hmR, hM⟩
        · exact absurd (nI_le (a := 112) (by omega) (by omega)) c
      | succ d ih =>
        intro f V T L hf hE hL hT
        refine z_iload_n F dX10_init_111 rfl ?_
        refine z_bipush (v := nI 112) F dX10_init_112 (by decide) ?_
        refine z_icmp_ge (tgt := 128) F dX10_init_114 (by decide) (fun c => ?_) (fun c => ?_)
        · exact absurd ((nI_leI (a := 112) (by omega) (by omega)).mp c) (by omega)
        · refine z_aload_n F dX10_init_117 rfl ?_
          refine z_iload_n F dX10_init_118 rfl ?_
          have ct := m_nothing (Γ := Γ) (f := f) hmR hL (by omega)
          rw [a0] at ct
          refine z_cVv (As := [.int (nI f)]) F ct dX10_init_119 ml_X10_48 ok_X10_nothing ho12 (by decide) rfl rfl rfl (Nat.le_of_ble_eq_true rfl) (by decide) (by decide) (fun S' hS' => ?_)
          obtain ⟨V', L', rfl, hE', hL'⟩ := hS'
          refine z_iinc_2 F dX10_init_122 rfl ?_
          refine z_goto (tgt := 111) F dX10_init_125 (by decide) ?_
          rw [show nI f + Int32.ofInt 1 = nI (f + 1) from nI_1 f]
          refine ih (f + 1) V' _ L' (by omega) (hE.trans hE') hL' (fun q hq => ?_)
          by_cases e : q = f
          · rw [e, up_self]
          · rw [up_ne _ _ e]; exact hT q (by omega)
    refine z_iconst (v := nI 0) F dX10_init_109 (by decide) ?_
    refine z_istore_n_2 F dX10_init_110 rfl ?_
    exact loop 112 0 S12.2 _ _ rfl (eG.refl _) hL0 (fun q hq => absurd hq (Nat.not_lt_zero q))
  refine z_iload_n F dX10_init_87 rfl ?_
  refine z_iconst (v := nI 1) F dX10_init_88 (by decide) ?_
  refine z_icmp_ge (tgt := 96) F dX10_init_89 (by decide) (fun c1 => ?_) (fun c1 => ?_)
  · have h1 : ¬ p < 1 := fun z => by
      have a1 := Int32.lt_iff_toInt_lt.mp z
      have a2 := Int32.le_iff_toInt_le.mp c1
      have e1 : (nI 1).toInt = 1 := by decide
      have f1 : (1 : Int32).toInt = 1 := by decide
      omega
    refine z_iload_n F dX10_init_96 rfl ?_
    refine z_iconst (v := nI 5) F dX10_init_97 (by decide) ?_
    refine z_icmp_le (tgt := 105) F dX10_init_98 (by decide) (fun c2 => ?_) (fun c2 => ?_)
    · have h2 : ¬ 5 < p := fun z => by
        have a1 := Int32.lt_iff_toInt_lt.mp z
        have a2 := Int32.le_iff_toInt_le.mp c2
        have e1 : (nI 5).toInt = 5 := by decide
        have f1 : (5 : Int32).toInt = 5 := by decide
        omega
      refine z_iload_n F dX10_init_105 rfl ?_
      refine z_ti (cN_nI h1 h2).symm ?_
      exact put
    · have h2 : 5 < p := Int32.lt_iff_toInt_lt.mpr (by
        have a2 := mt Int32.le_iff_toInt_le.mpr c2
        have e1 : (nI 5).toInt = 5 := by decide
        have f1 : (5 : Int32).toInt = 5 := by decide
        omega)
      have e : nI (cN p) = nI 5 := by unfold cN; rw [if_neg h1, if_pos h2]
      rw [e] at put
      refine z_iconst (v := nI 5) F dX10_init_101 (by decide) ?_
      refine z_goto (tgt := 106) F dX10_init_102 (by decide) ?_
      exact put
  · have h1 : p < 1 := Int32.lt_iff_toInt_lt.mpr (by
      have a2 := mt Int32.le_iff_toInt_le.mpr c1
      have e1 : (nI 1).toInt = 1 := by decide
      have f1 : (1 : Int32).toInt = 1 := by decide
      omega)
    have e : nI (cN p) = nI 1 := by unfold cN; rw [if_pos h1]
    rw [e] at put
    refine z_iconst (v := nI 1) F dX10_init_92 (by decide) ?_
    refine z_goto (tgt := 106) F dX10_init_93 (by decide) ?_
    exact put
end INIT4
