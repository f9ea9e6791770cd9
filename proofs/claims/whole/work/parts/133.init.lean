/-! ===== constructors: Elimination, Determinants, Solved, Joint, Text ===== -/
section INIT2
variable {Γ : Gm} {κ : Cx} {S S0 : Hs} {cs sl pc : Nat} {Q : State → Prop} {lv : Lv} {st : List Value} {M : Mm} {R : Room} {ow ow0 : Ow} {val val0 : Nat → Nat} {o ci k : Nat}
/-- an int field of o is set -/
def Fi (S S' : Hs) (ci o k : Nat) (x : Int32) (val val' : Nat → Nat) : Prop := vI S'.2 ci k o = x ∧ (∀ j, zR S'.1 ci j o = zR S.1 ci j o) ∧ (∀ c j, ¬ (c = ci ∧ j = k) → vI S'.2 c j o = vI S.2 c j o) ∧ ∀ b c, zIn S.1 b c → zIn S'.1 b c ∧ zn S'.1 b = zn S.1 b ∧ val' b = val b
theorem z_pI (F : zFx Γ κ M R) {i4 : Nat} {x : Int32} (d4 : decode (mb M) pc = .ok (.putfield i4, 3)) (hpf : zPF (mo M) i4 ci k) (hi : zIs ci k = true) (hfit : zFit ci k x) (hnm : (my M).name = "<init>") (ho : zIn S0.1 o ci) (h7 : ci ≠ 7) (h0 : Gr S0 S o ow0 ow val0 val) (hC : CI S ow val)
    (kk : ∀ (S' : Hs), Gr S0 S' o ow0 ow val0 val → CI S' ow val → Fi S S' ci o k x val val → zX Γ κ S' cs sl Q (pc + 3) lv st) : zX Γ κ S cs sl Q pc lv (.int x :: .ref o :: st) := by
  refine z_putF F d4 hpf hi hfit hnm (h0.i ho) ?_
  exact kk _ (h0.putI ho.1 k x) (hC.putI h7 k o x) ⟨vI_sI_self _ _ _ _ _, fun _ => rfl, fun c j h => vI_sI_ne _ _ (fun z => h ⟨z.1, z.2.1⟩), fun b c hb => ⟨hb, rfl, rfl⟩⟩
theorem z_pA (F : zFx Γ κ M R) {i4 A : Nat} (d4 : decode (mb M) pc = .ok (.putfield i4, 3)) (hpf : zPF (mo M) i4 ci k) (hi : zIs ci k = false) (hnm : (my M).name = "<init>") (ho : zIn S0.1 o ci) (hci : ci < 10) (h7 : ci ≠ 7) (hA : zIn S.1 A 0) (h0 : Gr S0 S o ow0 ow val0 val) (hC : CI S ow val)
    (kk : ∀ (S' : Hs), Gr S0 S' o ow0 ow val0 val → CI S' ow val → Fq S S' ci o k A val val → zX Γ κ S' cs sl Q (pc + 3) lv st) : zX Γ κ S cs sl Q pc lv (.ref A :: .ref o :: st) := by
  refine z_putR F d4 hpf hi hnm (h0.i ho) ?_
  exact kk _ (h0.putA ho.1 k) (hC.putA (h0.i ho) hci h7 hA) ⟨sZ_r _ _ _ _ _, fun j hj => sZ_n _ (fun z => hj z.2.1), fun _ _ => rfl, fun b c hb => ⟨hb, rfl, rfl⟩⟩
theorem z_zer (F : zFx Γ κ M R) {i2 i4 N : Nat} (d2 : decode (mb M) pc = .ok (.invokestatic i2, 3)) (d4 : decode (mb M) (pc + 3) = .ok (.putfield i4, 3)) (hml : Cond.methodLink (mo M) i2 (my mX3_zeros) ∈ tz) (hN : N < 1000) (hpf : zPF (mo M) i4 ci k) (hi : zIs ci k = false) (hnm : (my M).name = "<init>") (hlen : lv.length = ml M) (hrm : ((Value.ref 0 :: st).map fun v => v.category).sum ≤ 8) (ho : zIn S0.1 o ci) (hci : ci < 10) (h7 : ci ≠ 7) (h0 : Gr S0 S o ow0 ow val0 val) (hC : CI S ow val) (hR : 3 + 1 ≤ R.frames ∧ 8 + (3 + 11) + 52 ≤ R.locals) (hf : cs + (1 + 5 * N) ≤ R.cells ∧ sl + 40 * N ≤ R.slots)
    (kk : ∀ (q : Nat) (S' : Hs) (ow' : Ow) (val' : Nat → Nat), q ∉ zL S.1 → Gr S0 S' o ow0 ow' val0 val' → CI S' ow' val' → Fq S S' ci o k q val val' → zIn S'.1 q 13 → zn S'.1 q = N → zX Γ κ S' (cs + (1 + 5 * N)) (sl + 40 * N) Q (pc + 3 + 3) lv st) : zX Γ κ S cs sl Q pc lv (.int (nI N) :: .ref o :: st) := by
  refine z_callS (As := [.int (nI N)]) (rest := .ref o :: st) F (c_zeros hN hC) d2 hml ok_X3_zeros rfl hlen rfl hrm hR hf (fun r S1 hr => ?_)
  obtain ⟨q, rfl, ow1, val1, hq, hG, hC1, hq13, hqn, hqo⟩ := hr
  have hoS := h0.i ho
  obtain ⟨g1, g2, g3⟩ := Fq.mk h0 hG hC1 ho hci h7 hq hq13.1 hqo (hG.2 q hq13.1 hq) k
  refine z_putR F d4 hpf hi hnm (hG.i hoS) ?_
  exact kk q _ _ _ hq g1 g2 g3 hq13 hqn
/-- this.f = new int[n] -/
theorem z_fI (F : zFx Γ κ M R) {i4 N : Nat} (d0 : decode (mb M) pc = .ok (.aload_n 0, 1)) (d1 : decode (mb M) (pc + 1) = .ok (.iload_n 1, 1)) (d2 : decode (mb M) (pc + 1 + 1) = .ok (.newarray .int, 2)) (d4 : decode (mb M) (pc + 1 + 1 + 2) = .ok (.putfield i4, 3)) (hN : N < 100000) (hpf : zPF (mo M) i4 ci k) (hi : zIs ci k = false) (hnm : (my M).name = "<init>") (hl0 : lv[((0 : Fin 4) : Nat)]? = some (some (.ref o))) (hl1 : lv[((1 : Fin 4) : Nat)]? = some (some (.int (nI N)))) (ho : zIn S0.1 o ci) (hci : ci < 10) (h7 : ci ≠ 7) (h0 : Gr S0 S o ow0 ow val0 val) (hC : CI S ow val) (hf : cs + 1 ≤ R.cells ∧ sl + N ≤ R.slots)
    (kk : ∀ (q : Nat) (S' : Hs) (ow' : Ow) (val' : Nat → Nat), q ∉ zL S.1 → Gr S0 S' o ow0 ow' val0 val' → CI S' ow' val' → Fq S S' ci o k q val val' → zIn S'.1 q 11 → zn S'.1 q = N → zX Γ κ S' (cs + 1) (sl + N) Q (pc + 1 + 1 + 2 + 3) lv st) : zX Γ κ S cs sl Q pc lv st := by
  refine z_aload_n F d0 hl0 ?_
  refine z_iload_n F d1 hl1 ?_
  exact z_nA (t0 := 1) (ca := 11) F d2 d4 ac_int rfl rfl (Or.inl ⟨rfl, rfl⟩) rfl hN hpf hi hnm ho hci h7 h0 hC hf (fun q S' ow' val' a b c d e f _ => kk q S' ow' val' a b c d e f)
set_option maxRecDepth 100000 in
set_option maxHeartbeats 2000000 in
theorem c_initE {n A : Nat} (hn : 1 ≤ n ∧ n ≤ 5) (hC : CI S ow val) (ho : zIn S.1 o 2) (hA : zIn S.1 A 0) : zCt Γ mX2_init 4 74 (13 + 5 * (n * (n + 1))) (78 + 40 * (n * (n + 1)) + 2 * n) [.ref o, .int (nI n), .ref A] S (pV (iP S o ow val (fun S' _ => zR S'.1 2 1 o = some A ∧ vI S'.2 2 0 o = nI n))) := by
  refine zCt.of [some (.ref o), some (.int (nI n)), some (.ref A)] pn_X2_init rfl (Nat.le_of_ble_eq_true rfl) rfl (fun κ F => ?_)
  have h30 := nn30 hn.2
  refine z_aload_n F dX2_init_0 rfl ?_
  refine z_obj F dX2_init_1 ml_X2_1 rfl ⟨Nat.le_of_ble_eq_true rfl, Nat.le_of_ble_eq_true rfl⟩ ?_
  refine z_fF (ci := 2) (k := 5) (o := o) (S0 := S) F dX2_init_4 dX2_init_5 dX2_init_8 dX2_init_9 dX2_init_12 cl_X2_7 ml_X2_9 pf_X2_10 (by decide +kernel) rfl rfl rfl ho (by decide) (by decide) (Gr.refl S o ow val) hC ⟨Nat.le_of_ble_eq_true rfl, Nat.le_of_ble_eq_true rfl⟩ ⟨by show _ ≤ (13 + 5 * (n * (n + 1))); omega, by show _ ≤ (78 + 40 * (n * (n + 1)) + 2 * n); omega⟩ (fun q1 S1 ow1 val1 hn1 hG1 hC1 hF1 hq1 => ?_)
  refine z_fF (ci := 2) (k := 6) (o := o) (S0 := S) F dX2_init_15 dX2_init_16 dX2_init_19 dX2_init_20 dX2_init_23 cl_X2_7 ml_X2_9 pf_X2_16 (by decide +kernel) rfl rfl rfl ho (by decide) (by decide) hG1 hC1 ⟨Nat.le_of_ble_eq_true rfl, Nat.le_of_ble_eq_true rfl⟩ ⟨by show _ ≤ (13 + 5 * (n * (n + 1))); omega, by show _ ≤ (78 + 40 * (n * (n + 1)) + 2 * n); omega⟩ (fun q2 S2 ow2 val2 hn2 hG2 hC2 hF2 hq2 => ?_)
  refine z_aload_n F dX2_init_26 rfl ?_
  refine z_iload_n F dX2_init_27 rfl ?_
  refine z_pI (ci := 2) (k := 0) (o := o) (S0 := S) F dX2_init_28 pf_X2_19 (by decide +kernel) (zf_2_0 _) rfl ho (by decide) hG2 hC2 (fun S3 hG3 hC3 hF3 => ?_)
  refine z_aload_n F dX2_init_31 rfl ?_
  refine z_aload_n F dX2_init_32 rfl ?_
  refine z_pA (ci := 2) (k := 1) (o := o) (S0 := S) F dX2_init_33 pf_X2_23 (by decide +kernel) rfl ho (by decide) (by decide) (hG3.i hA) hG3 hC3 (fun S4 hG4 hC4 hF4 => ?_)
  refine z_aload_n F dX2_init_36 rfl ?_
  refine z_iload_n F dX2_init_37 rfl ?_
  refine z_iload_n F dX2_init_38 rfl ?_
  refine z_iconst (v := nI 1) F dX2_init_39 (by decide) ?_
  refine z_iadd F dX2_init_40 ?_
  refine z_ti (nI_add n 1) ?_
  refine z_imul F dX2_init_41 ?_
  refine z_ti (pk_mul n (n + 1)) ?_
  refine z_zer (N := n * (n + 1)) (ci := 2) (k := 2) (o := o) (S0 := S) F dX2_init_42 dX2_init_45 ml_X2_27 (by omega) pf_X2_31 (by decide +kernel) rfl rfl (Nat.le_of_ble_eq_true rfl) ho (by decide) (by decide) hG4 hC4 ⟨Nat.le_of_ble_eq_true rfl, Nat.le_of_ble_eq_true rfl⟩ ⟨by show _ ≤ (13 + 5 * (n * (n + 1))); omega, by show _ ≤ (78 + 40 * (n * (n + 1)) + 2 * n); omega⟩ (fun q5 S5 ow5 val5 hn5 hG5 hC5 hF5 hq5 hz5 => ?_)
  refine z_fI (N := n) (ci := 2) (k := 3) (o := o) (S0 := S) F dX2_init_48 dX2_init_49 dX2_init_50 dX2_init_52 (by omega) pf_X2_35 (by decide +kernel) rfl rfl rfl ho (by decide) (by decide) hG5 hC5 ⟨by show _ ≤ (13 + 5 * (n * (n + 1))); omega, by show _ ≤ (78 + 40 * (n * (n + 1)) + 2 * n); omega⟩ (fun q6 S6 ow6 val6 hn6 hG6 hC6 hF6 hq6 hz6 => ?_)
  refine z_fI (N := n) (ci := 2) (k := 4) (o := o) (S0 := S) F dX2_init_55 dX2_init_56 dX2_init_57 dX2_init_59 (by omega) pf_X2_39 (by decide +kernel) rfl rfl rfl ho (by decide) (by decide) hG6 hC6 ⟨by show _ ≤ (13 + 5 * (n * (n + 1))); omega, by show _ ≤ (78 + 40 * (n * (n + 1)) + 2 * n); omega⟩ (fun q7 S7 ow7 val7 hn7 hG7 hC7 hF7 hq7 hz7 => ?_)
  have ho2 := hG7.i ho
  have eA : zR S7.1 2 1 o = some A := by rw [hF7.2.1 1 (by decide), hF6.2.1 1 (by decide), hF5.2.1 1 (by decide)]; exact hF4.1
  have eN : vI S7.2 2 0 o = nI n := by rw [hF7.2.2.1 2 0, hF6.2.2.1 2 0, hF5.2.2.1 2 0, hF4.2.2.1 2 0]; exact hF3.1
  refine z_cs (show _ = 13 + 5 * (n * (n + 1)) by omega) (show _ = 78 + 40 * (n * (n + 1)) + 2 * n by omega) ?_
  refine z_vret F dX2_init_62 rfl ⟨_, _, hG7, hC7, FIN.of2 ho2.2 ⟨n, A, q5, q6, q7, q1, q2, ⟨eA, by rw [hF7.2.1 2 (by decide), hF6.2.1 2 (by decide)]; exact hF5.1, by rw [hF7.2.1 3 (by decide)]; exact hF6.1, hF7.1, by rw [hF7.2.1 5 (by decide), hF6.2.1 5 (by decide), hF5.2.1 5 (by decide), hF4.2.1 5 (by decide), hF3.2.1 5, hF2.2.1 5 (by decide)]; exact hF1.1, by rw [hF7.2.1 6 (by decide), hF6.2.1 6 (by decide), hF5.2.1 6 (by decide), hF4.2.1 6 (by decide), hF3.2.1 6]; exact hF2.1⟩, ⟨hG7.i hA, (hF7.2.2.2 _ _ (hF6.2.2.2 _ _ hq5).1).1, by rw [(hF7.2.2.2 _ _ (hF6.2.2.2 _ _ hq5).1).2.1, (hF6.2.2.2 _ _ hq5).2.1]; exact hz5, (hF7.2.2.2 _ _ hq6).1, by rw [(hF7.2.2.2 _ _ hq6).2.1]; exact hz6, hq7, hz7, (hF7.2.2.2 _ _ (hF6.2.2.2 _ _ (hF5.2.2.2 _ _ (hF4.2.2.2 _ _ (hF3.2.2.2 _ _ (hF2.2.2.2 _ _ hq1).1).1).1).1).1).1, (hF7.2.2.2 _ _ (hF6.2.2.2 _ _ (hF5.2.2.2 _ _ (hF4.2.2.2 _ _ (hF3.2.2.2 _ _ hq2).1).1).1).1).1⟩, eN, hn.1, hn.2⟩, eA, eN⟩
set_option maxRecDepth 100000 in
theorem c_initD {n A : Nat} (hn : 1 ≤ n ∧ n ≤ 5) (hC : CI S ow val) (ho : zIn S.1 o 1) (hA : zIn S.1 A 0) : zCt Γ mX1_init 3 52 6 (39 + n) [.ref o, .int (nI n), .ref A] S (pV (iP S o ow val (fun S' _ => zR S'.1 1 1 o = some A ∧ vI S'.2 1 0 o = nI n))) := by
  refine zCt.of [some (.ref o), some (.int (nI n)), some (.ref A)] pn_X1_init rfl (Nat.le_of_ble_eq_true rfl) rfl (fun κ F => ?_)
  refine z_aload_n F dX1_init_0 rfl ?_
  refine z_obj F dX1_init_1 ml_X1_1 rfl ⟨Nat.le_of_ble_eq_true rfl, Nat.le_of_ble_eq_true rfl⟩ ?_
  refine z_fF (ci := 1) (k := 3) (o := o) (S0 := S) F dX1_init_4 dX1_init_5 dX1_init_8 dX1_init_9 dX1_init_12 cl_X1_7 ml_X1_9 pf_X1_10 (by decide +kernel) rfl rfl rfl ho (by decide) (by decide) (Gr.refl S o ow val) hC ⟨Nat.le_of_ble_eq_true rfl, Nat.le_of_ble_eq_true rfl⟩ ⟨by show _ ≤ (6 : Nat); omega, by show _ ≤ (39 + n : Nat); omega⟩ (fun q1 S1 ow1 val1 hn1 hG1 hC1 hF1 hq1 => ?_)
  refine z_aload_n F dX1_init_15 rfl ?_
  refine z_iload_n F dX1_init_16 rfl ?_
  refine z_pI (ci := 1) (k := 0) (o := o) (S0 := S) F dX1_init_17 pf_X1_16 (by decide +kernel) (zf_1_0 _) rfl ho (by decide) hG1 hC1 (fun S2 hG2 hC2 hF2 => ?_)
  refine z_aload_n F dX1_init_20 rfl ?_
  refine z_aload_n F dX1_init_21 rfl ?_
  refine z_pA (ci := 1) (k := 1) (o := o) (S0 := S) F dX1_init_22 pf_X1_20 (by decide +kernel) rfl ho (by decide) (by decide) (hG2.i hA) hG2 hC2 (fun S3 hG3 hC3 hF3 => ?_)
  refine z_fI (N := n) (ci := 1) (k := 2) (o := o) (S0 := S) F dX1_init_25 dX1_init_26 dX1_init_27 dX1_init_29 (by omega) pf_X1_24 (by decide +kernel) rfl rfl rfl ho (by decide) (by decide) hG3 hC3 ⟨by show _ ≤ (6 : Nat); omega, by show _ ≤ (39 + n : Nat); omega⟩ (fun q4 S4 ow4 val4 hn4 hG4 hC4 hF4 hq4 hz4 => ?_)
  have ho2 := hG4.i ho
  have eA : zR S4.1 1 1 o = some A := by rw [hF4.2.1 1 (by decide)]; exact hF3.1
  have eN : vI S4.2 1 0 o = nI n := by rw [hF4.2.2.1 1 0, hF3.2.2.1 1 0]; exact hF2.1
  refine z_cs (show _ = 6 by omega) (show _ = 39 + n by omega) ?_
  refine z_vret F dX1_init_32 rfl ⟨_, _, hG4, hC4, FIN.of1 ho2.2 ⟨n, A, q4, q1, ⟨eA, hF4.1, by rw [hF4.2.1 3 (by decide), hF3.2.1 3 (by decide), hF2.2.1 3]; exact hF1.1⟩, ⟨hG4.i hA, hq4, hz4, (hF4.2.2.2 _ _ (hF3.2.2.2 _ _ (hF2.2.2.2 _ _ hq1).1).1).1⟩, eN, hn.1, hn.2⟩, eA, eN⟩
set_option maxRecDepth 100000 in
set_option maxHeartbeats 2000000 in
theorem c_initS {n A : Nat} (hn : 1 ≤ n ∧ n ≤ 5) (hC : CI S ow val) (ho : zIn S.1 o 5) (hA : zIn S.1 A 0) (h8 : vI S.2 5 8 o = 0) : zCt Γ mX6_init 4 74 (14 + 5 * n) (78 + 43 * n) [.ref o, .int (nI n), .ref A] S (pV (iP S o ow val (fun S' _ => zR S'.1 5 1 o = some A ∧ vI S'.2 5 0 o = nI n))) := by
  refine zCt.of [some (.ref o), some (.int (nI n)), some (.ref A)] pn_X6_init rfl (Nat.le_of_ble_eq_true rfl) rfl (fun κ F => ?_)
  refine z_aload_n F dX6_init_0 rfl ?_
  refine z_obj F dX6_init_1 ml_X6_1 rfl ⟨Nat.le_of_ble_eq_true rfl, Nat.le_of_ble_eq_true rfl⟩ ?_
  refine z_fF (ci := 5) (k := 6) (o := o) (S0 := S) F dX6_init_4 dX6_init_5 dX6_init_8 dX6_init_9 dX6_init_12 cl_X6_7 ml_X6_9 pf_X6_10 (by decide +kernel) rfl rfl rfl ho (by decide) (by decide) (Gr.refl S o ow val) hC ⟨Nat.le_of_ble_eq_true rfl, Nat.le_of_ble_eq_true rfl⟩ ⟨by show _ ≤ (14 + 5 * n : Nat); omega, by show _ ≤ (78 + 43 * n : Nat); omega⟩ (fun q1 S1 ow1 val1 hn1 hG1 hC1 hF1 hq1 => ?_)
  refine z_fF (ci := 5) (k := 7) (o := o) (S0 := S) F dX6_init_15 dX6_init_16 dX6_init_19 dX6_init_20 dX6_init_23 cl_X6_7 ml_X6_9 pf_X6_16 (by decide +kernel) rfl rfl rfl ho (by decide) (by decide) hG1 hC1 ⟨Nat.le_of_ble_eq_true rfl, Nat.le_of_ble_eq_true rfl⟩ ⟨by show _ ≤ (14 + 5 * n : Nat); omega, by show _ ≤ (78 + 43 * n : Nat); omega⟩ (fun q2 S2 ow2 val2 hn2 hG2 hC2 hF2 hq2 => ?_)
  refine z_aload_n F dX6_init_26 rfl ?_
  refine z_iload_n F dX6_init_27 rfl ?_
  refine z_pI (ci := 5) (k := 0) (o := o) (S0 := S) F dX6_init_28 pf_X6_19 (by decide +kernel) (zf_5_0 _) rfl ho (by decide) hG2 hC2 (fun S3 hG3 hC3 hF3 => ?_)
  refine z_aload_n F dX6_init_31 rfl ?_
  refine z_aload_n F dX6_init_32 rfl ?_
  refine z_pA (ci := 5) (k := 1) (o := o) (S0 := S) F dX6_init_33 pf_X6_23 (by decide +kernel) rfl ho (by decide) (by decide) (hG3.i hA) hG3 hC3 (fun S4 hG4 hC4 hF4 => ?_)
  refine z_fI (N := n) (ci := 5) (k := 2) (o := o) (S0 := S) F dX6_init_36 dX6_init_37 dX6_init_38 dX6_init_40 (by omega) pf_X6_27 (by decide +kernel) rfl rfl rfl ho (by decide) (by decide) hG4 hC4 ⟨by show _ ≤ (14 + 5 * n : Nat); omega, by show _ ≤ (78 + 43 * n : Nat); omega⟩ (fun q5 S5 ow5 val5 hn5 hG5 hC5 hF5 hq5 hz5 => ?_)
  refine z_fI (N := n) (ci := 5) (k := 3) (o := o) (S0 := S) F dX6_init_43 dX6_init_44 dX6_init_45 dX6_init_47 (by omega) pf_X6_31 (by decide +kernel) rfl rfl rfl ho (by decide) (by decide) hG5 hC5 ⟨by show _ ≤ (14 + 5 * n : Nat); omega, by show _ ≤ (78 + 43 * n : Nat); omega⟩ (fun q6 S6 ow6 val6 hn6 hG6 hC6 hF6 hq6 hz6 => ?_)
  refine z_fI (N := n) (ci := 5) (k := 4) (o := o) (S0 := S) F dX6_init_50 dX6_init_51 dX6_init_52 dX6_init_54 (by omega) pf_X6_34 (by decide +kernel) rfl rfl rfl ho (by decide) (by decide) hG6 hC6 ⟨by show _ ≤ (14 + 5 * n : Nat); omega, by show _ ≤ (78 + 43 * n : Nat); omega⟩ (fun q7 S7 ow7 val7 hn7 hG7 hC7 hF7 hq7 hz7 => ?_)
  refine z_aload_n F dX6_init_57 rfl ?_
  refine z_iload_n F dX6_init_58 rfl ?_
  refine z_zer (N := n) (ci := 5) (k := 5) (o := o) (S0 := S) F dX6_init_59 dX6_init_62 ml_X6_37 (by omega) pf_X6_41 (by decide +kernel) rfl rfl (Nat.le_of_ble_eq_true rfl) ho (by decide) (by decide) hG7 hC7 ⟨Nat.le_of_ble_eq_true rfl, Nat.le_of_ble_eq_true rfl⟩ ⟨by show _ ≤ (14 + 5 * n : Nat); omega, by show _ ≤ (78 + 43 * n : Nat); omega⟩ (fun q8 S8 ow8 val8 hn8 hG8 hC8 hF8 hq8 hz8 => ?_)
  have ho2 := hG8.i ho
  have eA : zR S8.1 5 1 o = some A := by rw [hF8.2.1 1 (by decide), hF7.2.1 1 (by decide), hF6.2.1 1 (by decide), hF5.2.1 1 (by decide)]; exact hF4.1
  have eN : vI S8.2 5 0 o = nI n := by rw [hF8.2.2.1 5 0, hF7.2.2.1 5 0, hF6.2.2.1 5 0, hF5.2.2.1 5 0, hF4.2.2.1 5 0]; exact hF3.1
  have e8 : vI S8.2 5 8 o = 0 := by rw [hF8.2.2.1 5 8, hF7.2.2.1 5 8, hF6.2.2.1 5 8, hF5.2.2.1 5 8, hF4.2.2.1 5 8, hF3.2.2.1 5 8 (by decide), hF2.2.2.1 5 8, hF1.2.2.1 5 8]; exact h8
  refine z_cs (show _ = 14 + 5 * n by omega) (show _ = 78 + 43 * n by omega) ?_
  refine z_vret F dX6_init_65 rfl ⟨_, _, hG8, hC8, FIN.of5 ho2.2 ⟨n, A, q5, q6, q7, q8, q1, q2, ⟨eA, by rw [hF8.2.1 2 (by decide), hF7.2.1 2 (by decide), hF6.2.1 2 (by decide)]; exact hF5.1, by rw [hF8.2.1 3 (by decide), hF7.2.1 3 (by decide)]; exact hF6.1, by rw [hF8.2.1 4 (by decide)]; exact hF7.1, hF8.1, by rw [hF8.2.1 6 (by decide), hF7.2.1 6 (by decide), hF6.2.1 6 (by decide), hF5.2.1 6 (by decide), hF4.2.1 6 (by decide), hF3.2.1 6, hF2.2.1 6 (by decide)]; exact hF1.1, by rw [hF8.2.1 7 (by decide), hF7.2.1 7 (by decide), hF6.2.1 7 (by decide), hF5.2.1 7 (by decide), hF4.2.1 7 (by decide), hF3.2.1 7]; exact hF2.1⟩, ⟨hG8.i hA, (hF8.2.2.2 _ _ (hF7.2.2.2 _ _ (hF6.2.2.2 _ _ hq5).1).1).1, by rw [(hF8.2.2.2 _ _ (hF7.2.2.2 _ _ (hF6.2.2.2 _ _ hq5).1).1).2.1, (hF7.2.2.2 _ _ (hF6.2.2.2 _ _ hq5).1).2.1, (hF6.2.2.2 _ _ hq5).2.1]; exact hz5, (hF8.2.2.2 _ _ (hF7.2.2.2 _ _ hq6).1).1, by rw [(hF8.2.2.2 _ _ (hF7.2.2.2 _ _ hq6).1).2.1, (hF7.2.2.2 _ _ hq6).2.1]; exact hz6, (hF8.2.2.2 _ _ hq7).1, by rw [(hF8.2.2.2 _ _ hq7).2.1]; exact hz7, hq8, hz8, (hF8.2.2.2 _ _ (hF7.2.2.2 _ _ (hF6.2.2.2 _ _ (hF5.2.2.2 _ _ (hF4.2.2.2 _ _ (hF3.2.2.2 _ _ (hF2.2.2.2 _ _ hq1).1).1).1).1).1).1).1, (hF8.2.2.2 _ _ (hF7.2.2.2 _ _ (hF6.2.2.2 _ _ (hF5.2.2.2 _ _ (hF4.2.2.2 _ _ (hF3.2.2.2 _ _ hq2).1).1).1).1).1).1⟩, eN, e8, hn.1, hn.2⟩, eA, eN⟩
theorem fl7.A {S' : Hs} {P : Nat → Prop} {A : Nat} (h : fl7 S val ci o P) (hF : Fq S S' ci o k A val val) (hP : ∀ j, P j → j ≠ k) : fl7 S' val ci o P := fun j hj => by
  obtain ⟨r, e1, e2, e3⟩ := h j hj
  obtain ⟨i1, -, i3⟩ := hF.2.2.2 r 7 e2
  exact ⟨r, by rw [hF.2.1 j (hP j hj)]; exact e1, i1, e3⟩
set_option maxRecDepth 100000 in
set_option maxHeartbeats 2000000 in
theorem c_initJ {A : Nat} (hC : CI S ow val) (ho : zIn S.1 o 4) (hA : zIn S.1 A 0) (h9 : vI S.2 4 9 o = 0) : zCt Γ mX4_init 2 32 16 144 [.ref o, .ref A] S (pV (iP S o ow val (fun S' _ => zR S'.1 4 0 o = some A))) := by
  refine zCt.of [some (.ref o), some (.ref A)] pn_X4_init rfl (Nat.le_of_ble_eq_true rfl) rfl (fun κ F => ?_)
  refine z_aload_n F dX4_init_0 rfl ?_
  refine z_obj F dX4_init_1 ml_X4_1 rfl ⟨Nat.le_of_ble_eq_true rfl, Nat.le_of_ble_eq_true rfl⟩ ?_
  have p0 : fl7 S val 4 o (fun j => 1 ≤ j ∧ j ≤ 0) := fun j hj => absurd hj (by omega)
  refine z_fW (ci := 4) (k := 1) (o := o) (S0 := S) F dX4_init_4 dX4_init_5 dX4_init_8 dX4_init_9 dX4_init_12 cl_X4_7 (by decide +kernel) pf_X4_10 (by decide +kernel) rfl rfl rfl ho (by decide) (by decide) (Gr.refl S o ow val) hC ⟨Nat.le_of_ble_eq_true rfl, Nat.le_of_ble_eq_true rfl⟩ ⟨by show _ ≤ (16 : Nat); omega, by show _ ≤ (144 : Nat); omega⟩ (fun q1 S1 ow1 val1 hn1 hG1 hC1 hF1 hq1 hw1 hv1 => ?_)
  have p1 : fl7 S1 val1 4 o (fun j => 1 ≤ j ∧ j ≤ 1) := p0.step hF1 hq1 hv1 (fun j hj => by omega)
  refine z_fW (ci := 4) (k := 2) (o := o) (S0 := S) F dX4_init_15 dX4_init_16 dX4_init_19 dX4_init_20 dX4_init_23 cl_X4_7 (by decide +kernel) pf_X4_16 (by decide +kernel) rfl rfl rfl ho (by decide) (by decide) hG1 hC1 ⟨Nat.le_of_ble_eq_true rfl, Nat.le_of_ble_eq_true rfl⟩ ⟨by show _ ≤ (16 : Nat); omega, by show _ ≤ (144 : Nat); omega⟩ (fun q2 S2 ow2 val2 hn2 hG2 hC2 hF2 hq2 hw2 hv2 => ?_)
  have p2 : fl7 S2 val2 4 o (fun j => 1 ≤ j ∧ j ≤ 2) := p1.step hF2 hq2 hv2 (fun j hj => by omega)
  refine z_fW (ci := 4) (k := 3) (o := o) (S0 := S) F dX4_init_26 dX4_init_27 dX4_init_30 dX4_init_31 dX4_init_34 cl_X4_7 (by decide +kernel) pf_X4_19 (by decide +kernel) rfl rfl rfl ho (by decide) (by decide) hG2 hC2 ⟨Nat.le_of_ble_eq_true rfl, Nat.le_of_ble_eq_true rfl⟩ ⟨by show _ ≤ (16 : Nat); omega, by show _ ≤ (144 : Nat); omega⟩ (fun q3 S3 ow3 val3 hn3 hG3 hC3 hF3 hq3 hw3 hv3 => ?_)
  have p3 : fl7 S3 val3 4 o (fun j => 1 ≤ j ∧ j ≤ 3) := p2.step hF3 hq3 hv3 (fun j hj => by omega)
  refine z_fW (ci := 4) (k := 4) (o := o) (S0 := S) F dX4_init_37 dX4_init_38 dX4_init_41 dX4_init_42 dX4_init_45 cl_X4_7 (by decide +kernel) pf_X4_22 (by decide +kernel) rfl rfl rfl ho (by decide) (by decide) hG3 hC3 ⟨Nat.le_of_ble_eq_true rfl, Nat.le_of_ble_eq_true rfl⟩ ⟨by show _ ≤ (16 : Nat); omega, by show _ ≤ (144 : Nat); omega⟩ (fun q4 S4 ow4 val4 hn4 hG4 hC4 hF4 hq4 hw4 hv4 => ?_)
  have p4 : fl7 S4 val4 4 o (fun j => 1 ≤ j ∧ j ≤ 4) := p3.step hF4 hq4 hv4 (fun j hj => by omega)
  refine z_fW (ci := 4) (k := 5) (o := o) (S0 := S) F dX4_init_48 dX4_init_49 dX4_init_52 dX4_init_53 dX4_init_56 cl_X4_7 (by decide +kernel) pf_X4_25 (by decide +kernel) rfl rfl rfl ho (by decide) (by decide) hG4 hC4 ⟨Nat.le_of_ble_eq_true rfl, Nat.le_of_ble_eq_true rfl⟩ ⟨by show _ ≤ (16 : Nat); omega, by show _ ≤ (144 : Nat); omega⟩ (fun q5 S5 ow5 val5 hn5 hG5 hC5 hF5 hq5 hw5 hv5 => ?_)
  have p5 : fl7 S5 val5 4 o (fun j => 1 ≤ j ∧ j ≤ 5) := p4.step hF5 hq5 hv5 (fun j hj => by omega)
  refine z_fW (ci := 4) (k := 6) (o := o) (S0 := S) F dX4_init_59 dX4_init_60 dX4_init_63 dX4_init_64 dX4_init_67 cl_X4_7 (by decide +kernel) pf_X4_28 (by decide +kernel) rfl rfl rfl ho (by decide) (by decide) hG5 hC5 ⟨Nat.le_of_ble_eq_true rfl, Nat.le_of_ble_eq_true rfl⟩ ⟨by show _ ≤ (16 : Nat); omega, by show _ ≤ (144 : Nat); omega⟩ (fun q6 S6 ow6 val6 hn6 hG6 hC6 hF6 hq6 hw6 hv6 => ?_)
  have p6 : fl7 S6 val6 4 o (fun j => 1 ≤ j ∧ j ≤ 6) := p5.step hF6 hq6 hv6 (fun j hj => by omega)
  refine z_fW (ci := 4) (k := 7) (o := o) (S0 := S) F dX4_init_70 dX4_init_71 dX4_init_74 dX4_init_75 dX4_init_78 cl_X4_7 (by decide +kernel) pf_X4_31 (by decide +kernel) rfl rfl rfl ho (by decide) (by decide) hG6 hC6 ⟨Nat.le_of_ble_eq_true rfl, Nat.le_of_ble_eq_true rfl⟩ ⟨by show _ ≤ (16 : Nat); omega, by show _ ≤ (144 : Nat); omega⟩ (fun q7 S7 ow7 val7 hn7 hG7 hC7 hF7 hq7 hw7 hv7 => ?_)
  have p7 : fl7 S7 val7 4 o (fun j => 1 ≤ j ∧ j ≤ 7) := p6.step hF7 hq7 hv7 (fun j hj => by omega)
  refine z_fW (ci := 4) (k := 8) (o := o) (S0 := S) F dX4_init_81 dX4_init_82 dX4_init_85 dX4_init_86 dX4_init_89 cl_X4_7 (by decide +kernel) pf_X4_34 (by decide +kernel) rfl rfl rfl ho (by decide) (by decide) hG7 hC7 ⟨Nat.le_of_ble_eq_true rfl, Nat.le_of_ble_eq_true rfl⟩ ⟨by show _ ≤ (16 : Nat); omega, by show _ ≤ (144 : Nat); omega⟩ (fun q8 S8 ow8 val8 hn8 hG8 hC8 hF8 hq8 hw8 hv8 => ?_)
  have p8 : fl7 S8 val8 4 o (fun j => 1 ≤ j ∧ j ≤ 8) := p7.step hF8 hq8 hv8 (fun j hj => by omega)
  refine z_aload_n F dX4_init_92 rfl ?_
  refine z_aload_n F dX4_init_93 rfl ?_
  refine z_pA (ci := 4) (k := 0) (o := o) (S0 := S) F dX4_init_94 pf_X4_37 (by decide +kernel) rfl ho (by decide) (by decide) (hG8.i hA) hG8 hC8 (fun S9 hG9 hC9 hF9 => ?_)
  have p9 := p8.A hF9 (fun j hj => by omega)
  have ho2 := hG9.i ho
  have eA : zR S9.1 4 0 o = some A := hF9.1
  have e9 : vI S9.2 4 9 o = 0 := by rw [hF9.2.2.1 4 9, hF8.2.2.1 4 9, hF7.2.2.1 4 9, hF6.2.2.1 4 9, hF5.2.2.1 4 9, hF4.2.2.1 4 9, hF3.2.2.1 4 9, hF2.2.2.1 4 9, hF1.2.2.1 4 9]; exact h9
  have r2 : zR S9.1 4 2 o = some q2 := by rw [hF9.2.1 2 (by decide), hF8.2.1 2 (by decide), hF7.2.1 2 (by decide), hF6.2.1 2 (by decide), hF5.2.1 2 (by decide), hF4.2.1 2 (by decide), hF3.2.1 2 (by decide)]; exact hF2.1
  have i2 : zIn S9.1 q2 7 := (hF9.2.2.2 _ _ (hF8.2.2.2 _ _ (hF7.2.2.2 _ _ (hF6.2.2.2 _ _ (hF5.2.2.2 _ _ (hF4.2.2.2 _ _ (hF3.2.2.2 _ _ hq2).1).1).1).1).1).1).1
  have q20 : q2 ∉ zL S.1 := fun z => hn2 (hG1.1 q2 z).1
  obtain ⟨g, hw⟩ := (hG9.2 q2 i2.1 q20).1 i2.2
  have how2 := (hC9.1 o 2 q2 ho2.1 (by unfold rf; rw [ho2.2]; exact r2)).2.resolve_left (by rw [i2.2]; decide)
  have hown := (hC9.1 q2 0 g i2.1 (by unfold rf; rw [i2.2]; exact hw.2.1)).2.resolve_left (by rw [hw.2.2.1.2]; decide)
  have hg0 : g ∉ zL S.1 := fun z => by
    rw [(hG9.1 g z).2.2.2.1] at hown
    exact q20 (hC.2.2 g q2 0 z hown)
  refine z_aload_n F dX4_init_97 rfl ?_
  refine z_getR F dX4_init_98 gr_X4_16 ho2 r2 ?_
  refine z_lconst (v := lN 1) F dX4_init_101 (by decide) ?_
  refine z_cVv (As := [.long (lN 1)]) F (c_setBits (n := 1) hw (hC9.2.1 q2 g hw) (by decide)) dX4_init_102 ml_X4_41 ok_X8_setBits i2 (by decide) rfl rfl rfl (Nat.le_of_ble_eq_true rfl) (by decide) (by decide) (fun S' hS' => ?_)
  obtain ⟨V', rfl, hV, hx⟩ := hS'
  obtain ⟨g1, g2⟩ := hG9.bits hC9 ho.1 q20 hg0 how2 hw hV hx
  refine z_vret F dX4_init_105 rfl ⟨_, _, g1, g2, FIN.of4 ho2.2 ⟨A, eA, hG9.i hA, fun k h1 h2 => ?_, ?_⟩, eA⟩
  · obtain ⟨q, e1, e2, e3⟩ := p9 k ⟨h1, h2⟩
    refine ⟨q, e1, e2, ?_⟩
    by_cases e : k = 2
    · subst e
      have : q = q2 := Option.some.inj (e1.symm.trans r2)
      rw [if_pos rfl, this, up_self]
    · have hne : q ≠ q2 := fun z => by
        have ho3 := (hC9.1 o k q ho2.1 (by unfold rf; rw [ho2.2]; exact e1)).2.resolve_left (by rw [e2.2]; decide)
        rw [z, how2] at ho3
        injection ho3 with ho3
        injection ho3 with _ ho4
        exact e ho4.symm
      rw [if_neg e, up_ne _ _ hne]
      exact e3
  · rw [hV.1 4 9 o (fun z => absurd z.1 (by decide))]; exact e9
theorem fl7.N {S' : Hs} {val' : Nat → Nat} {P : Nat → Prop} {A : Nat} (h : fl7 S val ci o P) (hF : Fq S S' ci o k A val val') (hP : ∀ j, P j → j ≠ k) : fl7 S' val' ci o P := fun j hj => by
  obtain ⟨r, e1, e2, e3⟩ := h j hj
  obtain ⟨i1, -, i3⟩ := hF.2.2.2 r 7 e2
  exact ⟨r, by rw [hF.2.1 j (hP j hj)]; exact e1, i1, by rw [i3]; exact e3⟩
set_option maxRecDepth 100000 in
set_option maxHeartbeats 2000000 in
theorem c_initT {A : Nat} (hC : CI S ow val) (ho : zIn S.1 o 6) (hA : zIn S.1 A 0) (h5 : vI S.2 6 5 o = 0) : zCt Γ mX7_init 2 32 7 144 [.ref o, .ref A] S (pV (iP S o ow val (fun S' _ => zR S'.1 6 0 o = some A))) := by
  refine zCt.of [some (.ref o), some (.ref A)] pn_X7_init rfl (Nat.le_of_ble_eq_true rfl) rfl (fun κ F => ?_)
  refine z_aload_n F dX7_init_0 rfl ?_
  refine z_obj F dX7_init_1 ml_X7_1 rfl ⟨Nat.le_of_ble_eq_true rfl, Nat.le_of_ble_eq_true rfl⟩ ?_
  have p0 : fl7 S val 6 o (fun j => 1 ≤ j ∧ j ≤ 0) := fun j hj => absurd hj (by omega)
  refine z_fW (ci := 6) (k := 1) (o := o) (S0 := S) F dX7_init_4 dX7_init_5 dX7_init_8 dX7_init_9 dX7_init_12 cl_X7_7 (by decide +kernel) pf_X7_10 (by decide +kernel) rfl rfl rfl ho (by decide) (by decide) (Gr.refl S o ow val) hC ⟨Nat.le_of_ble_eq_true rfl, Nat.le_of_ble_eq_true rfl⟩ ⟨by show _ ≤ (7 : Nat); omega, by show _ ≤ (144 : Nat); omega⟩ (fun q1 S1 ow1 val1 hn1 hG1 hC1 hF1 hq1 hw1 hv1 => ?_)
  have p1 : fl7 S1 val1 6 o (fun j => 1 ≤ j ∧ j ≤ 1) := p0.step hF1 hq1 hv1 (fun j hj => by omega)
  refine z_fW (ci := 6) (k := 2) (o := o) (S0 := S) F dX7_init_15 dX7_init_16 dX7_init_19 dX7_init_20 dX7_init_23 cl_X7_7 (by decide +kernel) pf_X7_16 (by decide +kernel) rfl rfl rfl ho (by decide) (by decide) hG1 hC1 ⟨Nat.le_of_ble_eq_true rfl, Nat.le_of_ble_eq_true rfl⟩ ⟨by show _ ≤ (7 : Nat); omega, by show _ ≤ (144 : Nat); omega⟩ (fun q2 S2 ow2 val2 hn2 hG2 hC2 hF2 hq2 hw2 hv2 => ?_)
  have p2 : fl7 S2 val2 6 o (fun j => 1 ≤ j ∧ j ≤ 2) := p1.step hF2 hq2 hv2 (fun j hj => by omega)
  refine z_fW (ci := 6) (k := 3) (o := o) (S0 := S) F dX7_init_26 dX7_init_27 dX7_init_30 dX7_init_31 dX7_init_34 cl_X7_7 (by decide +kernel) pf_X7_19 (by decide +kernel) rfl rfl rfl ho (by decide) (by decide) hG2 hC2 ⟨Nat.le_of_ble_eq_true rfl, Nat.le_of_ble_eq_true rfl⟩ ⟨by show _ ≤ (7 : Nat); omega, by show _ ≤ (144 : Nat); omega⟩ (fun q3 S3 ow3 val3 hn3 hG3 hC3 hF3 hq3 hw3 hv3 => ?_)
  have p3 : fl7 S3 val3 6 o (fun j => 1 ≤ j ∧ j ≤ 3) := p2.step hF3 hq3 hv3 (fun j hj => by omega)
  refine z_aload_n F dX7_init_37 rfl ?_
  refine z_bipush (v := nI 90) F dX7_init_38 (by decide) ?_
  refine z_nA (N := 90) (ci := 6) (k := 4) (o := o) (S0 := S) (t0 := 0) (ca := 10) F dX7_init_40 dX7_init_42 ac_byte rfl rfl (Or.inr (Or.inl ⟨rfl, rfl⟩)) rfl (by decide) pf_X7_22 (by decide +kernel) rfl ho (by decide) (by decide) hG3 hC3 ⟨by decide, by decide⟩ (fun q4 S4 ow4 val4 hn4 hG4 hC4 hF4 hq4 hz4 _ => ?_)
  refine z_aload_n F dX7_init_45 rfl ?_
  refine z_aload_n F dX7_init_46 rfl ?_
  refine z_pA (ci := 6) (k := 0) (o := o) (S0 := S) F dX7_init_47 pf_X7_26 (by decide +kernel) rfl ho (by decide) (by decide) (hG4.i hA) hG4 hC4 (fun S5 hG5 hC5 hF5 => ?_)
  have p4 := p3.N hF4 (fun j hj => by omega)
  have p5 := p4.A hF5 (fun j hj => by omega)
  have ho2 := hG5.i ho
  have eA : zR S5.1 6 0 o = some A := hF5.1
  have e5 : vI S5.2 6 5 o = 0 := by rw [hF5.2.2.1 6 5, hF4.2.2.1 6 5, hF3.2.2.1 6 5, hF2.2.2.1 6 5, hF1.2.2.1 6 5]; exact h5
  have r2 : zR S5.1 6 1 o = some q1 := by rw [hF5.2.1 1 (by decide), hF4.2.1 1 (by decide), hF3.2.1 1 (by decide), hF2.2.1 1 (by decide)]; exact hF1.1
  have i2 : zIn S5.1 q1 7 := (hF5.2.2.2 _ _ (hF4.2.2.2 _ _ (hF3.2.2.2 _ _ (hF2.2.2.2 _ _ hq1).1).1).1).1
  have r4 : zR S5.1 6 4 o = some q4 := by rw [hF5.2.1 4 (by decide)]; exact hF4.1
  have i4 : zIn S5.1 q4 10 := (hF5.2.2.2 _ _ hq4).1
  have n4 : zn S5.1 q4 = 90 := by rw [(hF5.2.2.2 _ _ hq4).2.1]; exact hz4
  have q20 : q1 ∉ zL S.1 := hn1
  obtain ⟨g, hw⟩ := (hG5.2 q1 i2.1 q20).1 i2.2
  have how2 := (hC5.1 o 1 q1 ho2.1 (by unfold rf; rw [ho2.2]; exact r2)).2.resolve_left (by rw [i2.2]; decide)
  have hown := (hC5.1 q1 0 g i2.1 (by unfold rf; rw [i2.2]; exact hw.2.1)).2.resolve_left (by rw [hw.2.2.1.2]; decide)
  have hg0 : g ∉ zL S.1 := fun z => by
    rw [(hG5.1 g z).2.2.2.1] at hown
    exact q20 (hC.2.2 g q1 0 z hown)
  refine z_aload_n F dX7_init_50 rfl ?_
  refine z_getR F dX7_init_51 gr_X7_10 ho2 r2 ?_
  refine z_lconst (v := lN 1) F dX7_init_54 (by decide) ?_
  refine z_cVv (As := [.long (lN 1)]) F (c_setBits (n := 1) hw (hC5.2.1 q1 g hw) (by decide)) dX7_init_55 ml_X7_30 ok_X8_setBits i2 (by decide) rfl rfl rfl (Nat.le_of_ble_eq_true rfl) (by decide) (by decide) (fun S' hS' => ?_)
  obtain ⟨V', rfl, hV, hx⟩ := hS'
  obtain ⟨g1, g2⟩ := hG5.bits hC5 ho.1 q20 hg0 how2 hw hV hx
  refine z_vret F dX7_init_58 rfl ⟨_, _, g1, g2, FIN.of6 ho2.2 ⟨A, q4, eA, hG5.i hA, fun k h1 h2 => ?_, r4, i4, n4, ?_⟩, eA⟩
  · obtain ⟨q, e1, e2, e3⟩ := p5 k ⟨h1, h2⟩
    refine ⟨q, e1, e2, ?_⟩
    by_cases e : k = 1
    · subst e
      have : q = q1 := Option.some.inj (e1.symm.trans r2)
      rw [if_pos rfl, this, up_self]
    · have hne : q ≠ q1 := fun z => by
        have ho3 := (hC5.1 o k q ho2.1 (by unfold rf; rw [ho2.2]; exact e1)).2.resolve_left (by rw [e2.2]; decide)
        rw [z, how2] at ho3
        injection ho3 with ho3
        injection ho3 with _ ho4
        exact e ho4.symm
      rw [if_neg e, up_ne _ _ hne]
      exact e3
  · rw [hV.1 6 5 o (fun z => absurd z.1 (by decide))]; exact e5
end INIT2
