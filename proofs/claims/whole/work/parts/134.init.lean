/-! ===== constructors: FractionRows, FractionRowsModel ===== -/
/-- how many ROWS -/
def cN (p : Int32) : Nat := if p < 1 then 1 else if 5 < p then 5 else an p
theorem cN_ok (p : Int32) : 1 ≤ cN p ∧ cN p ≤ 5 := by
  unfold cN
  by_cases h1 : p < 1
  · rw [if_pos h1]; decide
  · rw [if_neg h1]
    by_cases h2 : 5 < p
    · rw [if_pos h2]; decide
    · rw [if_neg h2]
      have a1 := mt Int32.lt_iff_toInt_lt.mpr h1
      have a2 := mt Int32.lt_iff_toInt_lt.mpr h2
      have e1 : (1 : Int32).toInt = 1 := by decide
      have e5 : (5 : Int32).toInt = 5 := by decide
      show 1 ≤ p.toInt.toNat ∧ p.toInt.toNat ≤ 5
      omega
theorem cN_nI {p : Int32} (h1 : ¬ p < 1) (h2 : ¬ 5 < p) : nI (cN p) = p := by
  unfold cN
  rw [if_neg h1, if_neg h2]
  have a1 := mt Int32.lt_iff_toInt_lt.mpr h1
  have a2 := mt Int32.lt_iff_toInt_lt.mpr h2
  have e1 : (1 : Int32).toInt = 1 := by decide
  have e5 : (5 : Int32).toInt = 5 := by decide
  obtain ⟨P, hP, rfl⟩ := nI_of (x := p) (fun z => by
    have h3 := Int32.lt_iff_toInt_lt.mp z
    have e0 : (0 : Int32).toInt = 0 := by decide
    omega)
  rw [show an (nI P) = P from nI_clamp hP]
theorem cN_min (p : Int32) : (if nI 1 < (if p < nI 5 then p else nI 5) then (if p < nI 5 then p else nI 5) else nI 1) = nI (cN p) := by
  have e1 : (nI 1).toInt = 1 := by decide
  have e5 : (nI 5).toInt = 5 := by decide
  have f1 : (1 : Int32).toInt = 1 := by decide
  have f5 : (5 : Int32).toInt = 5 := by decide
  by_cases h2 : p < nI 5
  · rw [if_pos h2]
    by_cases h1 : nI 1 < p
    · rw [if_pos h1]
      refine (cN_nI (fun z => ?_) (fun z => ?_)).symm
      · have := Int32.lt_iff_toInt_lt.mp z; have := Int32.lt_iff_toInt_lt.mp h1; omega
      · have := Int32.lt_iff_toInt_lt.mp z; have := Int32.lt_iff_toInt_lt.mp h2; omega
    · rw [if_neg h1]
      have a1 := mt Int32.lt_iff_toInt_lt.mpr h1
      by_cases h3 : p < 1
      · unfold cN; rw [if_pos h3]
      · have a3 := mt Int32.lt_iff_toInt_lt.mpr h3
        have hp : p = 1 := Int32.toInt_inj.mp (by omega)
        rw [hp]; decide
  · rw [if_neg h2]
    have a2 := mt Int32.lt_iff_toInt_lt.mpr h2
    rw [if_pos (by decide)]
    unfold cN
    rw [if_neg (fun z => by have := Int32.lt_iff_toInt_lt.mp z; omega)]
    by_cases h3 : 5 < p
    · rw [if_pos h3]
    · have a3 := mt Int32.lt_iff_toInt_lt.mpr h3
      have hp : p = 5 := Int32.toInt_inj.mp (by omega)
      rw [hp]; decide
/-- the FractionRows at x: its parts -/
def X8 (Z : Hz) (V : Hv) (x n A na ea E D SO J Y : Nat) : Prop := (zIn Z x 8 ∧ zR Z 8 1 x = some A ∧ zR Z 8 2 x = some na ∧ zR Z 8 3 x = some ea ∧ zR Z 8 4 x = some E ∧ zR Z 8 5 x = some D ∧ zR Z 8 6 x = some SO ∧ zR Z 8 7 x = some J ∧ zR Z 8 8 x = some Y) ∧ (zIn Z A 0 ∧ zIn Z na 13 ∧ zn Z na = 40 ∧ zIn Z ea 13 ∧ zn Z ea = n * (n + 1) ∧ zIn Z E 2 ∧ zIn Z D 1 ∧ zIn Z SO 5 ∧ zIn Z J 4 ∧ zIn Z Y 6) ∧ (zR Z 2 1 E = some A ∧ vI V 2 0 E = nI n ∧ zR Z 1 1 D = some A ∧ vI V 1 0 D = nI n ∧ zR Z 5 1 SO = some A ∧ vI V 5 0 SO = nI n ∧ zR Z 4 0 J = some A ∧ zR Z 6 0 Y = some A) ∧ vI V 8 0 x = nI n ∧ vI V 8 9 x = 0 ∧ vI V 8 10 x = 0 ∧ 1 ≤ n ∧ n ≤ 5
section INIT3
variable {Γ : Gm} {κ : Cx} {S S0 : Hs} {cs sl pc : Nat} {Q : State → Prop} {lv : Lv} {st : List Value} {M : Mm} {R : Room} {ow ow0 : Ow} {val val0 : Nat → Nat} {o ci k : Nat}
/-- a step that leaves all that was there, but for o, as it was -/
def Fx (S S' : Hs) (o : Nat) : Prop := ∀ b, b ∈ zL S.1 → b ≠ o → (∀ c j, zR S'.1 c j b = zR S.1 c j b) ∧ ∀ c j, vI S'.2 c j b = vI S.2 c j b
theorem put9 {S1 : Hs} {ow1 : Ow} {val1 : Nat → Nat} {q cq : Nat} (h0 : Gr S0 S o ow0 ow val0 val) (hq : q ∉ zL S.1) (hG : Gr (zpN S.1 q cq 0, vpN S.2 q) S1 q (va_up ow q none) ow1 (va_up val q 0) val1) (hC : CI S1 ow1 val1) (hf : FIN S1.1 S1.2 val1 q) (ho : zIn S0.1 o 8) (k : Nat) : Gr S0 (sZ S1.1 8 k o q, S1.2) o ow0 (va_up ow1 q (some (o, k))) val0 val1 ∧ CI (sZ S1.1 8 k o q, S1.2) (va_up ow1 q (some (o, k))) val1 ∧ Fq S (sZ S1.1 8 k o q, S1.2) 8 o k q val val1 ∧ Fx S (sZ S1.1 8 k o q, S1.2) o ∧ zIn (sZ S1.1 8 k o q) q cq ∧ (∀ c j, zR (sZ S1.1 8 k o q) c j q = zR S1.1 c j q) := by
  have hi : zIn (zpN S.1 q cq 0) q cq := ⟨(zpN_L _ _ _ _ _).mpr (Or.inr rfl), up_self _ _ _⟩
  have hq1 := hG.1 q hi.1
  have hG' := Gr.mk hq hG hf
  have hoS := h0.i ho
  have hoq : o ≠ q := fun e => hq (e ▸ hoS.1)
  obtain ⟨g1, g2, g3⟩ := Fq.mk h0 hG' hC ho (by decide) (by decide) hq hq1.1 (hq1.2.2.2.1.trans (up_self _ _ _)) hf k
  refine ⟨g1, g2, g3, fun b hb hne => ⟨fun c j => ?_, fun c j => ?_⟩, hG.i hi, fun c j => sZ_n _ (fun z => hoq z.2.2.symm)⟩
  · show zR (sZ S1.1 8 k o q) c j b = _
    rw [sZ_n _ (fun z => hne z.2.2)]
    exact hG'.r hb (fun e => hq (e ▸ hb)) c j
  · exact hG'.vi hb (fun e => hq (e ▸ hb)) c j
set_option maxRecDepth 100000 in
set_option maxHeartbeats 4000000 in
theorem c_initX (p : Int32) (hC : CI S ow val) (ho : zIn S.1 o 8) (h9 : vI S.2 8 9 o = 0) (h10 : vI S.2 8 10 o = 0) : zCt Γ mX9_init 5 96 (288 + 10 * (cN p * (cN p + 1)) + 5 * cN p) (2351 + 80 * (cN p * (cN p + 1)) + 46 * cN p) [.ref o, .int p] S (pV (fun S' => ∃ ow' val', Gr S S' o ow ow' val val' ∧ CI S' ow' val' ∧ ∃ A na ea E D SO J Y, X8 S'.1 S'.2 o (cN p) A na ea E D SO J Y)) := by
  refine zCt.of [some (.ref o), some (.int p), none, none] pn_X9_init rfl (Nat.le_of_ble_eq_true rfl) rfl (fun κ F => ?_)
  obtain ⟨n, hnn⟩ : ∃ n, n = cN p := ⟨_, rfl⟩
  have hn := cN_ok p
  have hmm := cN_min p
  rw [← hnn] at hn hmm F ⊢
  have h30 := nn30 hn.2
  refine z_aload_n F dX9_init_0 rfl ?_
  refine z_obj F dX9_init_1 ml_X9_1 rfl ⟨Nat.le_of_ble_eq_true rfl, Nat.le_of_ble_eq_true rfl⟩ ?_
  refine z_iconst (v := nI 1) F dX9_init_4 (by decide) ?_
  refine z_iconst (v := nI 5) F dX9_init_5 (by decide) ?_
  refine z_iload_n F dX9_init_6 rfl ?_
  refine z_min F dX9_init_7 ml_X9_9 rfl ⟨Nat.le_of_ble_eq_true rfl, Nat.le_of_ble_eq_true rfl⟩ ⟨Nat.zero_le _, Nat.zero_le _⟩ ?_
  refine z_max F dX9_init_10 ml_X9_15 rfl ⟨Nat.le_of_ble_eq_true rfl, Nat.le_of_ble_eq_true rfl⟩ ⟨Nat.zero_le _, Nat.zero_le _⟩ ?_
  rw [hmm]
  refine z_istore_n_2 F dX9_init_13 rfl ?_
  refine z_new (ci := 0) F dX9_init_14 cl_X9_18 ins_X0 ini_X0 rfl (by decide) rfl ⟨by show _ ≤ 288 + 10 * (n * (n + 1)) + 5 * n; omega, by show _ ≤ 2351 + 80 * (n * (n + 1)) + 46 * n; omega⟩ (fun A hnA _ => ?_)
  refine z_dup F dX9_init_17 rfl ?_
  have hiA : zIn (zpN S.1 A 0 0) A 0 := ⟨(zpN_L _ _ _ _ _).mpr (Or.inr rfl), up_self _ _ _⟩
  refine z_callN (As := []) F (c_initA (hC.new hnA 0 0) hiA) dX9_init_18 (by decide +kernel) ok_X0_init im_X0_init rfl rfl rfl rfl rfl (Nat.le_of_ble_eq_true rfl) ⟨Nat.le_of_ble_eq_true rfl, Nat.le_of_ble_eq_true rfl⟩ ⟨by show _ ≤ 288 + 10 * (n * (n + 1)) + 5 * n; omega, by show _ ≤ 2351 + 80 * (n * (n + 1)) + 46 * n; omega⟩ (fun S1 hS1 => ?_)
  obtain ⟨ow1, val1, hgA, hC1, hfA, -⟩ := hS1
  have hGA := Gr.mk hnA hgA hfA
  have hA1 := hgA.i hiA
  have hG1 : Gr S S1 o ow ow1 val val1 := (Gr.refl S o ow val).trans hGA (Or.inr hnA) (fun _ _ => hfA)
  have hoA : o ≠ A := fun e => hnA (e ▸ ho.1)
  have v91 : vI S1.2 8 9 o = 0 := by rw [hGA.vi ho.1 hoA]; exact h9
  have v101 : vI S1.2 8 10 o = 0 := by rw [hGA.vi ho.1 hoA]; exact h10
  refine z_astore_n_3 F dX9_init_21 rfl ?_
  refine z_aload_n F dX9_init_22 rfl ?_
  refine z_iload_n F dX9_init_23 rfl ?_
  refine z_pI (ci := 8) (k := 0) (o := o) (S0 := S) F dX9_init_24 pf_X9_21 (by decide +kernel) (zf_8_0 _) rfl ho (by decide) hG1 hC1 (fun S2 hG2 hC2 hF2 => ?_)
  refine z_aload_n F dX9_init_27 rfl ?_
  refine z_aload_n F dX9_init_28 rfl ?_
  have hA2 := (hF2.2.2.2 _ _ hA1).1
  refine z_pA (ci := 8) (k := 1) (o := o) (S0 := S) F dX9_init_29 pf_X9_25 (by decide +kernel) rfl ho (by decide) (by decide) hA2 hG2 hC2 (fun S3 hG3 hC3 hF3 => ?_)
  have hA3 := (hF3.2.2.2 _ _ hA2).1
  refine z_aload_n F dX9_init_32 rfl ?_
  refine z_bipush (v := nI 40) F dX9_init_33 (by decide) ?_
  refine z_zer (N := 40) (ci := 8) (k := 2) (o := o) (S0 := S) F dX9_init_35 dX9_init_38 ml_X9_29 (by decide) pf_X9_35 (by decide +kernel) rfl rfl (Nat.le_of_ble_eq_true rfl) ho (by decide) (by decide) hG3 hC3 ⟨Nat.le_of_ble_eq_true rfl, Nat.le_of_ble_eq_true rfl⟩ ⟨by show _ ≤ 288 + 10 * (n * (n + 1)) + 5 * n; omega, by show _ ≤ 2351 + 80 * (n * (n + 1)) + 46 * n; omega⟩ (fun q4 S4 ow4 val4 hn4 hG4 hC4 hF4 hq4 hz4 => ?_)
  have hA4 := (hF4.2.2.2 _ _ hA3).1
  refine z_aload_n F dX9_init_41 rfl ?_
  refine z_iload_n F dX9_init_42 rfl ?_
  refine z_iload_n F dX9_init_43 rfl ?_
  refine z_iconst (v := nI 1) F dX9_init_44 (by decide) ?_
  refine z_iadd F dX9_init_45 ?_
  refine z_ti (nI_add n 1) ?_
  refine z_imul F dX9_init_46 ?_
  refine z_ti (pk_mul n (n + 1)) ?_
  refine z_zer (N := n * (n + 1)) (ci := 8) (k := 3) (o := o) (S0 := S) F dX9_init_47 dX9_init_50 ml_X9_29 (by omega) pf_X9_39 (by decide +kernel) rfl rfl (Nat.le_of_ble_eq_true rfl) ho (by decide) (by decide) hG4 hC4 ⟨Nat.le_of_ble_eq_true rfl, Nat.le_of_ble_eq_true rfl⟩ ⟨by show _ ≤ 288 + 10 * (n * (n + 1)) + 5 * n; omega, by show _ ≤ 2351 + 80 * (n * (n + 1)) + 46 * n; omega⟩ (fun q5 S5 ow5 val5 hn5 hG5 hC5 hF5 hq5 hz5 => ?_)
  have hA5 := (hF5.2.2.2 _ _ hA4).1
  refine z_aload_n F dX9_init_53 rfl ?_
  refine z_new (ci := 2) F dX9_init_54 cl_X9_42 ins_X2 ini_X2 rfl (by decide) rfl ⟨by show _ ≤ 288 + 10 * (n * (n + 1)) + 5 * n; omega, by show _ ≤ 2351 + 80 * (n * (n + 1)) + 46 * n; omega⟩ (fun q6 hn6 _ => ?_)
  refine z_dup F dX9_init_57 rfl ?_
  refine z_iload_n F dX9_init_58 rfl ?_
  refine z_aload_n F dX9_init_59 rfl ?_
  have hi6 : zIn (zpN S5.1 q6 2 0) q6 2 := ⟨(zpN_L _ _ _ _ _).mpr (Or.inr rfl), up_self _ _ _⟩
  have na6 : A ≠ q6 := fun e => hn6 (e ▸ hA5.1)
  have hb6 : zIn (zpN S5.1 q6 2 0) A 0 := ⟨(zpN_L _ _ _ _ _).mpr (Or.inl hA5.1), by rw [zpN_k _ na6]; exact hA5.2⟩
  refine z_callI (As := [.int (nI n), .ref A]) F (c_initE (n := n) (A := A) hn (hC5.new hn6 2 0) hi6 hb6) dX9_init_60 ml_X9_44 ok_X2_init im_X2_init rfl rfl rfl rfl rfl (Nat.le_of_ble_eq_true rfl) ⟨Nat.le_of_ble_eq_true rfl, Nat.le_of_ble_eq_true rfl⟩ ⟨by show _ ≤ 288 + 10 * (n * (n + 1)) + 5 * n; omega, by show _ ≤ 2351 + 80 * (n * (n + 1)) + 46 * n; omega⟩ (fun S6' hS6 => ?_)
  obtain ⟨ow6', val6', hg6, hc6, hf6, hx6⟩ := hS6
  obtain ⟨hG6, hC6, hF6, hX6, hq6, hr6⟩ := put9 hG5 hn6 hg6 hc6 hf6 ho 4
  refine z_putR F dX9_init_63 pf_X9_47 (by decide +kernel) rfl (show zIn S6'.1 o 8 from hG6.i ho) ?_
  generalize hS6e : ((sZ S6'.1 8 4 o q6, S6'.2) : Hs) = S6 at *
  have hA6 := (hF6.2.2.2 _ _ hA5).1
  have rA6 : zR S6.1 2 1 q6 = some A := by rw [← hS6e]; exact (hr6 _ _).trans hx6.1
  have vN6 : vI S6.2 2 0 q6 = nI n := by rw [← hS6e]; exact hx6.2
  have hq6' : zIn S6.1 q6 2 := by rw [← hS6e]; exact hq6
  refine z_aload_n F dX9_init_66 rfl ?_
  refine z_new (ci := 1) F dX9_init_67 cl_X9_51 ins_X1 ini_X1 rfl (by decide) rfl ⟨by show _ ≤ 288 + 10 * (n * (n + 1)) + 5 * n; omega, by show _ ≤ 2351 + 80 * (n * (n + 1)) + 46 * n; omega⟩ (fun q7 hn7 _ => ?_)
  refine z_dup F dX9_init_70 rfl ?_
  refine z_iload_n F dX9_init_71 rfl ?_
  refine z_aload_n F dX9_init_72 rfl ?_
  have hi7 : zIn (zpN S6.1 q7 1 0) q7 1 := ⟨(zpN_L _ _ _ _ _).mpr (Or.inr rfl), up_self _ _ _⟩
  have na7 : A ≠ q7 := fun e => hn7 (e ▸ hA6.1)
  have hb7 : zIn (zpN S6.1 q7 1 0) A 0 := ⟨(zpN_L _ _ _ _ _).mpr (Or.inl hA6.1), by rw [zpN_k _ na7]; exact hA6.2⟩
  refine z_callI (As := [.int (nI n), .ref A]) F (c_initD (n := n) (A := A) hn (hC6.new hn7 1 0) hi7 hb7) dX9_init_73 ml_X9_53 ok_X1_init im_X1_init rfl rfl rfl rfl rfl (Nat.le_of_ble_eq_true rfl) ⟨Nat.le_of_ble_eq_true rfl, Nat.le_of_ble_eq_true rfl⟩ ⟨by show _ ≤ 288 + 10 * (n * (n + 1)) + 5 * n; omega, by show _ ≤ 2351 + 80 * (n * (n + 1)) + 46 * n; omega⟩ (fun S7' hS7 => ?_)
  obtain ⟨ow7', val7', hg7, hc7, hf7, hx7⟩ := hS7
  obtain ⟨hG7, hC7, hF7, hX7, hq7, hr7⟩ := put9 hG6 hn7 hg7 hc7 hf7 ho 5
  refine z_putR F dX9_init_76 pf_X9_54 (by decide +kernel) rfl (show zIn S7'.1 o 8 from hG7.i ho) ?_
  generalize hS7e : ((sZ S7'.1 8 5 o q7, S7'.2) : Hs) = S7 at *
  have hA7 := (hF7.2.2.2 _ _ hA6).1
  have rA7 : zR S7.1 1 1 q7 = some A := by rw [← hS7e]; exact (hr7 _ _).trans hx7.1
  have vN7 : vI S7.2 1 0 q7 = nI n := by rw [← hS7e]; exact hx7.2
  have hq7' : zIn S7.1 q7 1 := by rw [← hS7e]; exact hq7
  refine z_aload_n F dX9_init_79 rfl ?_
  refine z_new (ci := 5) F dX9_init_80 cl_X9_58 ins_X6 ini_X6 rfl (by decide) rfl ⟨by show _ ≤ 288 + 10 * (n * (n + 1)) + 5 * n; omega, by show _ ≤ 2351 + 80 * (n * (n + 1)) + 46 * n; omega⟩ (fun q8 hn8 _ => ?_)
  refine z_dup F dX9_init_83 rfl ?_
  refine z_iload_n F dX9_init_84 rfl ?_
  refine z_aload_n F dX9_init_85 rfl ?_
  have hi8 : zIn (zpN S7.1 q8 5 0) q8 5 := ⟨(zpN_L _ _ _ _ _).mpr (Or.inr rfl), up_self _ _ _⟩
  have na8 : A ≠ q8 := fun e => hn8 (e ▸ hA7.1)
  have hb8 : zIn (zpN S7.1 q8 5 0) A 0 := ⟨(zpN_L _ _ _ _ _).mpr (Or.inl hA7.1), by rw [zpN_k _ na8]; exact hA7.2⟩
  refine z_callI (As := [.int (nI n), .ref A]) F (c_initS (n := n) (A := A) hn (hC7.new hn8 5 0) hi8 hb8 (vpN_i' _ _ _ _)) dX9_init_86 ml_X9_60 ok_X6_init im_X6_init rfl rfl rfl rfl rfl (Nat.le_of_ble_eq_true rfl) ⟨Nat.le_of_ble_eq_true rfl, Nat.le_of_ble_eq_true rfl⟩ ⟨by show _ ≤ 288 + 10 * (n * (n + 1)) + 5 * n; omega, by show _ ≤ 2351 + 80 * (n * (n + 1)) + 46 * n; omega⟩ (fun S8' hS8 => ?_)
  obtain ⟨ow8', val8', hg8, hc8, hf8, hx8⟩ := hS8
  obtain ⟨hG8, hC8, hF8, hX8, hq8, hr8⟩ := put9 hG7 hn8 hg8 hc8 hf8 ho 6
  refine z_putR F dX9_init_89 pf_X9_61 (by decide +kernel) rfl (show zIn S8'.1 o 8 from hG8.i ho) ?_
  generalize hS8e : ((sZ S8'.1 8 6 o q8, S8'.2) : Hs) = S8 at *
  have hA8 := (hF8.2.2.2 _ _ hA7).1
  have rA8 : zR S8.1 5 1 q8 = some A := by rw [← hS8e]; exact (hr8 _ _).trans hx8.1
  have vN8 : vI S8.2 5 0 q8 = nI n := by rw [← hS8e]; exact hx8.2
  have hq8' : zIn S8.1 q8 5 := by rw [← hS8e]; exact hq8
  refine z_aload_n F dX9_init_92 rfl ?_
  refine z_new (ci := 4) F dX9_init_93 cl_X9_65 ins_X4 ini_X4 rfl (by decide) rfl ⟨by show _ ≤ 288 + 10 * (n * (n + 1)) + 5 * n; omega, by show _ ≤ 2351 + 80 * (n * (n + 1)) + 46 * n; omega⟩ (fun q9 hn9 _ => ?_)
  refine z_dup F dX9_init_96 rfl ?_
  refine z_aload_n F dX9_init_97 rfl ?_
  have hi9 : zIn (zpN S8.1 q9 4 0) q9 4 := ⟨(zpN_L _ _ _ _ _).mpr (Or.inr rfl), up_self _ _ _⟩
  have na9 : A ≠ q9 := fun e => hn9 (e ▸ hA8.1)
  have hb9 : zIn (zpN S8.1 q9 4 0) A 0 := ⟨(zpN_L _ _ _ _ _).mpr (Or.inl hA8.1), by rw [zpN_k _ na9]; exact hA8.2⟩
  refine z_callI (As := [.ref A]) F (c_initJ (A := A) (hC8.new hn9 4 0) hi9 hb9 (vpN_i' _ _ _ _)) dX9_init_98 ml_X9_67 ok_X4_init im_X4_init rfl rfl rfl rfl rfl (Nat.le_of_ble_eq_true rfl) ⟨Nat.le_of_ble_eq_true rfl, Nat.le_of_ble_eq_true rfl⟩ ⟨by show _ ≤ 288 + 10 * (n * (n + 1)) + 5 * n; omega, by show _ ≤ 2351 + 80 * (n * (n + 1)) + 46 * n; omega⟩ (fun S9' hS9 => ?_)
  obtain ⟨ow9', val9', hg9, hc9, hf9, hx9⟩ := hS9
  obtain ⟨hG9, hC9, hF9, hX9, hq9, hr9⟩ := put9 hG8 hn9 hg9 hc9 hf9 ho 7
  refine z_putR F dX9_init_101 pf_X9_70 (by decide +kernel) rfl (show zIn S9'.1 o 8 from hG9.i ho) ?_
  generalize hS9e : ((sZ S9'.1 8 7 o q9, S9'.2) : Hs) = S9 at *
  have hA9 := (hF9.2.2.2 _ _ hA8).1
  have rA9 : zR S9.1 4 0 q9 = some A := by rw [← hS9e]; exact (hr9 _ _).trans hx9
  have hq9' : zIn S9.1 q9 4 := by rw [← hS9e]; exact hq9
  refine z_aload_n F dX9_init_104 rfl ?_
  refine z_new (ci := 6) F dX9_init_105 cl_X9_74 ins_X7 ini_X7 rfl (by decide) rfl ⟨by show _ ≤ 288 + 10 * (n * (n + 1)) + 5 * n; omega, by show _ ≤ 2351 + 80 * (n * (n + 1)) + 46 * n; omega⟩ (fun q10 hn10 _ => ?_)
  refine z_dup F dX9_init_108 rfl ?_
  refine z_aload_n F dX9_init_109 rfl ?_
  have hi10 : zIn (zpN S9.1 q10 6 0) q10 6 := ⟨(zpN_L _ _ _ _ _).mpr (Or.inr rfl), up_self _ _ _⟩
  have na10 : A ≠ q10 := fun e => hn10 (e ▸ hA9.1)
  have hb10 : zIn (zpN S9.1 q10 6 0) A 0 := ⟨(zpN_L _ _ _ _ _).mpr (Or.inl hA9.1), by rw [zpN_k _ na10]; exact hA9.2⟩
  refine z_callI (As := [.ref A]) F (c_initT (A := A) (hC9.new hn10 6 0) hi10 hb10 (vpN_i' _ _ _ _)) dX9_init_110 ml_X9_76 ok_X7_init im_X7_init rfl rfl rfl rfl rfl (Nat.le_of_ble_eq_true rfl) ⟨Nat.le_of_ble_eq_true rfl, Nat.le_of_ble_eq_true rfl⟩ ⟨by show _ ≤ 288 + 10 * (n * (n + 1)) + 5 * n; omega, by show _ ≤ 2351 + 80 * (n * (n + 1)) + 46 * n; omega⟩ (fun S10' hS10 => ?_)
  obtain ⟨ow10', val10', hg10, hc10, hf10, hx10⟩ := hS10
  obtain ⟨hG10, hC10, hF10, hX10, hq10, hr10⟩ := put9 hG9 hn10 hg10 hc10 hf10 ho 8
  refine z_putR F dX9_init_113 pf_X9_77 (by decide +kernel) rfl (show zIn S10'.1 o 8 from hG10.i ho) ?_
  generalize hS10e : ((sZ S10'.1 8 8 o q10, S10'.2) : Hs) = S10 at *
  have hA10 := (hF10.2.2.2 _ _ hA9).1
  have rA10 : zR S10.1 6 0 q10 = some A := by rw [← hS10e]; exact (hr10 _ _).trans hx10
  have hq10' : zIn S10.1 q10 6 := by rw [← hS10e]; exact hq10
  have nx6 : q6 ≠ o := fun e => hn6 (e ▸ (hG5.i ho).1)
  have nx7 : q7 ≠ o := fun e => hn7 (e ▸ (hG6.i ho).1)
  have nx8 : q8 ≠ o := fun e => hn8 (e ▸ (hG7.i ho).1)
  have nx9 : q9 ≠ o := fun e => hn9 (e ▸ (hG8.i ho).1)
  have nx10 : q10 ≠ o := fun e => hn10 (e ▸ (hG9.i ho).1)
  have fin : X8 S10.1 S10.2 o n A q4 q5 q6 q7 q8 q9 q10 := ⟨⟨hG10.i ho, by rw [hF10.2.1 1 (by decide), hF9.2.1 1 (by decide), hF8.2.1 1 (by decide), hF7.2.1 1 (by decide), hF6.2.1 1 (by decide), hF5.2.1 1 (by decide), hF4.2.1 1 (by decide)]; exact hF3.1, by rw [hF10.2.1 2 (by decide), hF9.2.1 2 (by decide), hF8.2.1 2 (by decide), hF7.2.1 2 (by decide), hF6.2.1 2 (by decide), hF5.2.1 2 (by decide)]; exact hF4.1, by rw [hF10.2.1 3 (by decide), hF9.2.1 3 (by decide), hF8.2.1 3 (by decide), hF7.2.1 3 (by decide), hF6.2.1 3 (by decide)]; exact hF5.1, by rw [hF10.2.1 4 (by decide), hF9.2.1 4 (by decide), hF8.2.1 4 (by decide), hF7.2.1 4 (by decide)]; exact hF6.1, by rw [hF10.2.1 5 (by decide), hF9.2.1 5 (by decide), hF8.2.1 5 (by decide)]; exact hF7.1, by rw [hF10.2.1 6 (by decide), hF9.2.1 6 (by decide)]; exact hF8.1, by rw [hF10.2.1 7 (by decide)]; exact hF9.1, hF10.1⟩, ⟨hA10, (hF10.2.2.2 _ _ (hF9.2.2.2 _ _ (hF8.2.2.2 _ _ (hF7.2.2.2 _ _ (hF6.2.2.2 _ _ (hF5.2.2.2 _ _ hq4).1).1).1).1).1).1, by rw [(hF10.2.2.2 _ _ (hF9.2.2.2 _ _ (hF8.2.2.2 _ _ (hF7.2.2.2 _ _ (hF6.2.2.2 _ _ (hF5.2.2.2 _ _ hq4).1).1).1).1).1).2.1, (hF9.2.2.2 _ _ (hF8.2.2.2 _ _ (hF7.2.2.2 _ _ (hF6.2.2.2 _ _ (hF5.2.2.2 _ _ hq4).1).1).1).1).2.1, (hF8.2.2.2 _ _ (hF7.2.2.2 _ _ (hF6.2.2.2 _ _ (hF5.2.2.2 _ _ hq4).1).1).1).2.1, (hF7.2.2.2 _ _ (hF6.2.2.2 _ _ (hF5.2.2.2 _ _ hq4).1).1).2.1, (hF6.2.2.2 _ _ (hF5.2.2.2 _ _ hq4).1).2.1, (hF5.2.2.2 _ _ hq4).2.1]; exact hz4, (hF10.2.2.2 _ _ (hF9.2.2.2 _ _ (hF8.2.2.2 _ _ (hF7.2.2.2 _ _ (hF6.2.2.2 _ _ hq5).1).1).1).1).1, by rw [(hF10.2.2.2 _ _ (hF9.2.2.2 _ _ (hF8.2.2.2 _ _ (hF7.2.2.2 _ _ (hF6.2.2.2 _ _ hq5).1).1).1).1).2.1, (hF9.2.2.2 _ _ (hF8.2.2.2 _ _ (hF7.2.2.2 _ _ (hF6.2.2.2 _ _ hq5).1).1).1).2.1, (hF8.2.2.2 _ _ (hF7.2.2.2 _ _ (hF6.2.2.2 _ _ hq5).1).1).2.1, (hF7.2.2.2 _ _ (hF6.2.2.2 _ _ hq5).1).2.1, (hF6.2.2.2 _ _ hq5).2.1]; exact hz5, (hF10.2.2.2 _ _ (hF9.2.2.2 _ _ (hF8.2.2.2 _ _ (hF7.2.2.2 _ _ hq6').1).1).1).1, (hF10.2.2.2 _ _ (hF9.2.2.2 _ _ (hF8.2.2.2 _ _ hq7').1).1).1, (hF10.2.2.2 _ _ (hF9.2.2.2 _ _ hq8').1).1, (hF10.2.2.2 _ _ hq9').1, hq10'⟩, ⟨by rw [(hX10 q6 (hF9.2.2.2 _ _ (hF8.2.2.2 _ _ (hF7.2.2.2 _ _ hq6').1).1).1.1 nx6).1 _ _, (hX9 q6 (hF8.2.2.2 _ _ (hF7.2.2.2 _ _ hq6').1).1.1 nx6).1 _ _, (hX8 q6 (hF7.2.2.2 _ _ hq6').1.1 nx6).1 _ _, (hX7 q6 hq6'.1 nx6).1 _ _]; exact rA6, by rw [(hX10 q6 (hF9.2.2.2 _ _ (hF8.2.2.2 _ _ (hF7.2.2.2 _ _ hq6').1).1).1.1 nx6).2 _ _, (hX9 q6 (hF8.2.2.2 _ _ (hF7.2.2.2 _ _ hq6').1).1.1 nx6).2 _ _, (hX8 q6 (hF7.2.2.2 _ _ hq6').1.1 nx6).2 _ _, (hX7 q6 hq6'.1 nx6).2 _ _]; exact vN6, by rw [(hX10 q7 (hF9.2.2.2 _ _ (hF8.2.2.2 _ _ hq7').1).1.1 nx7).1 _ _, (hX9 q7 (hF8.2.2.2 _ _ hq7').1.1 nx7).1 _ _, (hX8 q7 hq7'.1 nx7).1 _ _]; exact rA7, by rw [(hX10 q7 (hF9.2.2.2 _ _ (hF8.2.2.2 _ _ hq7').1).1.1 nx7).2 _ _, (hX9 q7 (hF8.2.2.2 _ _ hq7').1.1 nx7).2 _ _, (hX8 q7 hq7'.1 nx7).2 _ _]; exact vN7, by rw [(hX10 q8 (hF9.2.2.2 _ _ hq8').1.1 nx8).1 _ _, (hX9 q8 hq8'.1 nx8).1 _ _]; exact rA8, by rw [(hX10 q8 (hF9.2.2.2 _ _ hq8').1.1 nx8).2 _ _, (hX9 q8 hq8'.1 nx8).2 _ _]; exact vN8, by rw [(hX10 q9 hq9'.1 nx9).1 _ _]; exact rA9, rA10⟩, by rw [hF10.2.2.1 8 0, hF9.2.2.1 8 0, hF8.2.2.1 8 0, hF7.2.2.1 8 0, hF6.2.2.1 8 0, hF5.2.2.1 8 0, hF4.2.2.1 8 0, hF3.2.2.1 8 0]; exact hF2.1, by rw [hF10.2.2.1 8 9, hF9.2.2.1 8 9, hF8.2.2.1 8 9, hF7.2.2.1 8 9, hF6.2.2.1 8 9, hF5.2.2.1 8 9, hF4.2.2.1 8 9, hF3.2.2.1 8 9, hF2.2.2.1 8 9 (by decide)]; exact v91, by rw [hF10.2.2.1 8 10, hF9.2.2.1 8 10, hF8.2.2.1 8 10, hF7.2.2.1 8 10, hF6.2.2.1 8 10, hF5.2.2.1 8 10, hF4.2.2.1 8 10, hF3.2.2.1 8 10, hF2.2.2.1 8 10 (by decide)]; exact v101, hn.1, hn.2⟩
  refine z_cs (show _ = 288 + 10 * (n * (n + 1)) + 5 * n by omega) (show _ = 2351 + 80 * (n * (n + 1)) + 46 * n by omega) ?_
  exact z_vret F dX9_init_116 rfl ⟨_, _, hG10, hC10, A, q4, q5, q6, q7, q8, q9, q10, fin⟩
end INIT3
