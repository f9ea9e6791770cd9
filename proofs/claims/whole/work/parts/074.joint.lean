/-! ===== Joint ===== -/
/-- the Joint at J; its Wholes by the numbers of their fields -/
def jR (Z : Hz) (uo vo w : Nat → Nat) (J A : Nat) (jw : Nat → Nat) : Prop := zIn Z J 4 ∧ zR Z 4 0 J = some A ∧ (∀ k, 1 ≤ k → k ≤ 8 → zR Z 4 k J = some (jw k) ∧ xW Z uo vo w (jw k)) ∧ ∀ i j, 1 ≤ i → i ≤ 8 → 1 ≤ j → j ≤ 8 → jw i = jw j → i = j
theorem jR.r {Z : Hz} {uo vo w : Nat → Nat} {J A : Nat} {jw : Nat → Nat} (h : jR Z uo vo w J A jw) (k : Nat) (h1 : 1 ≤ k) (h8 : k ≤ 8) : zR Z 4 k J = some (jw k) := (h.2.2.1 k h1 h8).1
theorem jR.w {Z : Hz} {uo vo w : Nat → Nat} {J A : Nat} {jw : Nat → Nat} (h : jR Z uo vo w J A jw) (k : Nat) (h1 : 1 ≤ k) (h8 : k ≤ 8) : xW Z uo vo w (jw k) := (h.2.2.1 k h1 h8).2
theorem jR.ne {Z : Hz} {uo vo w : Nat → Nat} {J A : Nat} {jw : Nat → Nat} (h : jR Z uo vo w J A jw) (i j : Nat) (h1 : 1 ≤ i) (h2 : i ≤ 8) (h3 : 1 ≤ j) (h4 : j ≤ 8) (hne : i ≠ j) : jw i ≠ jw j := fun e => hne (h.2.2.2 i j h1 h2 h3 h4 e)
theorem jR.o {Z : Hz} {uo vo w : Nat → Nat} {J A : Nat} {jw : Nat → Nat} (h : jR Z uo vo w J A jw) (k : Nat) (h1 : 1 ≤ k) (h8 : k ≤ 8) : zIn Z (jw k) 7 := by
  obtain ⟨g, hg⟩ := (h.w k h1 h8).1
  exact hg.1
/-- only Joint's Wholes move -/
def xN (jw : Nat → Nat) (X X' : Nat → Nat) : Prop := ∀ o, (∀ k, 1 ≤ k → k ≤ 8 → o ≠ jw k) → X' o = X o
theorem xN.refl (jw X : Nat → Nat) : xN jw X X := fun _ _ => rfl
theorem xN.up {jw X X' : Nat → Nat} {k x : Nat} (h : xN jw X X') (h1 : 1 ≤ k) (h8 : k ≤ 8) : xN jw X (va_up X' (jw k) x) := fun o ho => by rw [up_ne _ _ (ho k h1 h8)]; exact h o ho
/-- what joining p, r adds -/
def jnK (jn jm p r : Nat) : Nat := (r + p - jn % p) % p * ((jm % p) ^ (p - 2) % p) % p
section JOINT
variable {Γ : Gm} {Z : Hz} {V : Hv} {T : Nat → Fr} {X : Nat → Nat} {uo vo w jw : Nat → Nat} {A J q : Nat}
theorem KS.setI4 {k : Nat} {x : Int32} (hK : KS Z uo vo w V T X) : KS Z uo vo w (sI V 4 k J x) T X := by
  have h : eG (fun ci k a => ci = 4 ∧ a = J) (fun _ => False) V (sI V 4 k J x) := eG.setI V x ⟨rfl, rfl⟩
  refine hK.keep h (fun ci k a z h9 => ?_) (fun a z => z.elim)
  rcases h9 with h9 | h9 <;> (rw [z.1] at h9; exact absurd h9.1 (by decide))
def gJ (Z : Hz) (J : Nat) (V V' : Hv) : Prop := eG (fun ci k a => pI0 ci k a ∨ (ci = 4 ∧ a = J)) (pA0 Z) V V'
theorem gJ.ofF {V' : Hv} (h : eF Z V V') : gJ Z J V V' := h.g.mono (fun _ _ _ h => Or.inl h) (fun _ h => h)
theorem gJ.setI4 {k : Nat} {x : Int32} : gJ Z J V (sI V 4 k J x) := (eG.setI (PI := fun ci _ a => ci = 4 ∧ a = J) (PA := fun _ => False) V x ⟨rfl, rfl⟩).mono (fun ci k a z => Or.inr z) (fun a z => z.elim)
theorem eF.i4 {V' : Hv} {k : Nat} (h : eF Z V V') : vI V' 4 k J = vI V 4 k J := h.g.1 _ _ _ (fun h => by rcases h with h | h <;> exact absurd h.1 (by decide))
set_option maxRecDepth 100000 in
theorem c_jForget (hK : KS Z uo vo w V T X) (hW : wInj Z) (hS : fS Z uo vo w) (hJ : jR Z uo vo w J A jw) : zCt Γ mX4_forget 1 23 0 0 [.ref J] (Z, V) (pV (fun S' => ∃ V', S' = (Z, V') ∧ KS Z uo vo w V' T (va_up (va_up X (jw 1) 0) (jw 2) 1) ∧ gJ Z J V V' ∧ vI V' 4 9 J = 0)) := by
  refine zCt.of [some (.ref J)] pn_X4_forget rfl (Nat.le_of_ble_eq_true rfl) rfl (fun κ F => ?_)
  have b0 := hJ.1
  have r1 := hJ.r 1 (by decide) (by decide)
  have r2 := hJ.r 2 (by decide) (by decide)
  refine z_aload_n F dX4_forget_0 rfl ?_
  refine z_getR F dX4_forget_1 gr_X4_10 (by assumption) (by assumption) ?_
  refine z_lconst (v := lN 0) F dX4_forget_4 (by decide) ?_
  refine z_cVv F (K_setBits (n := 0) hK hW hS (hJ.w 1 (by decide) (by decide)) (by decide)) dX4_forget_5 ml_X4_41 ok_X8_setBits (hJ.o 1 (by decide) (by decide)) (by decide) rfl rfl rfl (Nat.le_of_ble_eq_true rfl) (by decide) (by decide) (fun S' hS' => ?_)
  obtain ⟨V1, rfl, hK1, hF1⟩ := hS'
  refine z_aload_n F dX4_forget_8 rfl ?_
  refine z_getR F dX4_forget_9 gr_X4_16 (by assumption) (by assumption) ?_
  refine z_lconst (v := lN 1) F dX4_forget_12 (by decide) ?_
  refine z_cVv F (K_setBits (n := 1) hK1 hW hS (hJ.w 2 (by decide) (by decide)) (by decide)) dX4_forget_13 ml_X4_41 ok_X8_setBits (hJ.o 2 (by decide) (by decide)) (by decide) rfl rfl rfl (Nat.le_of_ble_eq_true rfl) (by decide) (by decide) (fun S' hS' => ?_)
  obtain ⟨V2, rfl, hK2, hF2⟩ := hS'
  refine z_aload_n F dX4_forget_16 rfl ?_
  refine z_iconst (v := nI 0) F dX4_forget_17 (by decide) ?_
  refine z_putI F dX4_forget_18 pi_X4_45 (zf_4_9 _) (by assumption) ?_
  exact z_vret F dX4_forget_21 rfl ⟨_, rfl, hK2.setI4, ((gJ.ofF hF1).trans (gJ.ofF hF2)).trans gJ.setI4, by rw [vI_sI_self]; rfl⟩
set_option maxRecDepth 100000 in
theorem c_has {p : Nat} (hK : KS Z uo vo w V T X) (hS : fS Z uo vo w) (hJ : jR Z uo vo w J A jw) (hp0 : 0 < p) (hp : p < 2147483648) : zCt Γ mX4_has 1 24 0 0 [.ref J, .int (nI p)] (Z, V) (pZ (q0 Z V (decide (X (jw 2) % p = 0)))) := by
  refine zCt.of [some (.ref J), some (.int (nI p))] pn_X4_has rfl (Nat.le_of_ble_eq_true rfl) rfl (fun κ F => ?_)
  have b0 := hJ.1
  have r2 := hJ.r 2 (by decide) (by decide)
  have hlt := Nat.mod_lt (X (jw 2)) hp0
  refine z_aload_n F dX4_has_0 rfl ?_
  refine z_getR F dX4_has_1 gr_X4_16 (by assumption) (by assumption) ?_
  refine z_iload_n F dX4_has_4 rfl ?_
  refine z_cVi F (K_restBy hK hS (gW.mk (hJ.w 2 (by decide) (by decide))) hp0 hp) dX4_has_5 ml_X4_49 ok_X8_restBy (hJ.o 2 (by decide) (by decide)) (by decide) rfl rfl rfl (Nat.le_of_ble_eq_true rfl) (by decide) (by decide) (fun r S' hr => ?_)
  obtain ⟨rfl, rfl⟩ := hr
  refine z_if_ne (tgt := 15) F dX4_has_8 (by decide) (fun c => ?_) (fun c => ?_)
  · have h : ¬ X (jw 2) % p = 0 := fun z => c ((nI_ne0' (by omega)).mpr z)
    refine z_iconst (v := nI 0) F dX4_has_15 (by decide) ?_
    exact z_zret F false dX4_has_16 rfl rfl ⟨(decide_eq_false h).symm, rfl⟩
  · have h : X (jw 2) % p = 0 := (nI_ne0' (by omega)).mp c
    refine z_iconst (v := nI 1) F dX4_has_11 (by decide) ?_
    refine z_goto (tgt := 16) F dX4_has_12 (by decide) ?_
    exact z_zret F true dX4_has_16 rfl rfl ⟨(decide_eq_true h).symm, rfl⟩
theorem wideM {m k : Nat} (hm : m < 4294967296 ^ 6) (hk : k < 2147483648) : m * k < 4294967296 ^ 7 := by
  rw [Nat.pow_succ]
  exact Nat.lt_of_le_of_lt (Nat.mul_le_mul_left m (show k ≤ 4294967296 by omega)) (Nat.mul_lt_mul_of_pos_right hm (by decide))
theorem miss {r m p : Nat} (hr : r < p) (hm : m < p) : (r + p - m) % p = if m ≤ r then r - m else r + p - m := by
  by_cases h : m ≤ r
  · rw [if_pos h, show r + p - m = (r - m) + p by omega, Nat.add_mod_right, Nat.mod_eq_of_lt (by omega)]
  · rw [if_neg h, Nat.mod_eq_of_lt (by omega)]
set_option maxRecDepth 100000 in
set_option maxHeartbeats 1000000 in
theorem c_join {p r : Nat} (hK : KS Z uo vo w V T X) (hW : wInj Z) (hS : fS Z uo vo w) (hJ : jR Z uo vo w J A jw) (hp1 : 1 < p) (hp : p < 2147483648) (hr : r < p) (hm : X (jw 2) < 4294967296 ^ 6) (hn : X (jw 1) < 4294967296 ^ 6) : zCt Γ mX4_join 2 59 0 0 [.ref J, .int (nI p), .int (nI r)] (Z, V) (pZ (fun b S' => ∃ V' X', S' = (Z, V') ∧ KS Z uo vo w V' T X' ∧ gJ Z J V V' ∧ xN jw X X' ∧ b = decide (X (jw 2) * p < 4294967296 ^ 6) ∧ (b = false → X' (jw 1) = X (jw 1) ∧ X' (jw 2) = X (jw 2) ∧ vI V' 4 9 J = vI V 4 9 J) ∧ (b = true → X' (jw 1) = X (jw 1) + X (jw 2) * jnK (X (jw 1)) (X (jw 2)) p r ∧ X' (jw 2) = X (jw 2) * p ∧ vI V' 4 9 J = vI V 4 9 J + 1))) := by
  refine zCt.of [some (.ref J), some (.int (nI p)), some (.int (nI r)), none, none] pn_X4_join rfl (Nat.le_of_ble_eq_true rfl) rfl (fun κ F => ?_)
  have hp0 : 0 < p := by omega
  have b0 := hJ.1
  have r1 := hJ.r 1 (by decide) (by decide)
  have r2 := hJ.r 2 (by decide) (by decide)
  have r3 := hJ.r 3 (by decide) (by decide)
  have w1 := hJ.w 1 (by decide) (by decide)
  have w2 := hJ.w 2 (by decide) (by decide)
  have w3 := hJ.w 3 (by decide) (by decide)
  have o1 := hJ.o 1 (by decide) (by decide)
  have o2 := hJ.o 2 (by decide) (by decide)
  have o3 := hJ.o 3 (by decide) (by decide)
  have n12 := hJ.ne 1 2 (by decide) (by decide) (by decide) (by decide) (by decide)
  have n13 := hJ.ne 1 3 (by decide) (by decide) (by decide) (by decide) (by decide)
  have n23 := hJ.ne 2 3 (by decide) (by decide) (by decide) (by decide) (by decide)
  have hp64 : (nI p).toInt64 = lN p := nI_l (by omega)
  have hpne : ¬ lN p = 0 := fun z => absurd ((pk_lEQ (a := p) (b := 0) (by omega) (by decide)).mp z) (by omega)
  have l7 : ∀ {x : Nat}, x < 4294967296 ^ 7 → x < 4294967296 ^ 16 := fun h => Nat.lt_of_lt_of_le h (Nat.pow_le_pow_right (by decide) (by decide))
  refine z_aload_n F dX4_join_0 rfl ?_
  refine z_getR F dX4_join_1 gr_X4_19 (by assumption) (by assumption) ?_
  refine z_aload_n F dX4_join_4 rfl ?_
  refine z_getR F dX4_join_5 gr_X4_16 (by assumption) (by assumption) ?_
  refine z_cVv F (K_wcopy hK hW hS w3 (gW.mk w2)) dX4_join_8 ml_X4_53 ok_X8_copy o3 (by decide) rfl rfl rfl (Nat.le_of_ble_eq_true rfl) (by decide) (by decide) (fun S' hS' => ?_)
  obtain ⟨V1, rfl, hK1, hF1⟩ := hS'
  refine z_aload_n F dX4_join_11 rfl ?_
  refine z_getR F dX4_join_12 gr_X4_19 (by assumption) (by assumption) ?_
  refine z_iload_n F dX4_join_15 rfl ?_
  refine z_cVv F (K_scale (k := p) hK1 hW hS w3 hp (by rw [up_self]; exact l7 (wideM hm hp))) dX4_join_16 ml_X4_57 ok_X8_scale o3 (by decide) rfl rfl rfl (Nat.le_of_ble_eq_true rfl) (by decide) (by decide) (fun S' hS' => ?_)
  obtain ⟨V2, rfl, hK2, hF2⟩ := hS'
  rw [up_self, bx_uu] at hK2
  refine z_aload_n F dX4_join_19 rfl ?_
  refine z_getR F dX4_join_20 gr_X4_19 (by assumption) (by assumption) ?_
  refine z_cVz F (K_wIsWide hK2 hS (gW.mk w3)) dX4_join_23 ml_X4_61 ok_X8_isWide o3 (by decide) rfl rfl rfl (Nat.le_of_ble_eq_true rfl) (by decide) (by decide) (fun r' S' hr' => ?_)
  obtain ⟨rfl, rfl⟩ := hr'
  rw [up_self]
  generalize hX2 : va_up X (jw 3) (X (jw 2) * p) = X2 at hK2
  have x21 : X2 (jw 1) = X (jw 1) := by rw [← hX2, up_ne _ _ n13]
  have x22 : X2 (jw 2) = X (jw 2) := by rw [← hX2, up_ne _ _ n23]
  have x23 : X2 (jw 3) = X (jw 2) * p := by rw [← hX2, up_self]
  have x2n : xN jw X X2 := by rw [← hX2]; exact (xN.refl jw X).up (by decide) (by decide)
  have hF12 := hF1.trans hF2
  refine z_if_ne (tgt := 31) F dX4_join_26 (by decide) (fun c => ?_) (fun c => ?_)
  · have hwd := zb_t c
    have hv := eF.i4 (J := J) (k := 9) hF12
    have hmp := Nat.mod_lt (X (jw 2)) hp0
    have hnp := Nat.mod_lt (X (jw 1)) hp0
    refine z_iload_n F dX4_join_31 rfl ?_
    refine z_i2l F dX4_join_32 ?_
    refine z_tl (nI_l (by omega)) ?_
    refine z_aload_n F dX4_join_33 rfl ?_
    refine z_getR F dX4_join_34 gr_X4_10 (by assumption) (by assumption) ?_
    refine z_iload_n F dX4_join_37 rfl ?_
    refine z_cVi F (K_restBy hK2 hS (gW.mk w1) hp0 hp) dX4_join_38 ml_X4_49 ok_X8_restBy o1 (by decide) rfl rfl rfl (Nat.le_of_ble_eq_true rfl) (by decide) (by decide) (fun r' S' hr' => ?_)
    obtain ⟨rfl, rfl⟩ := hr'
    rw [x21]
    obtain ⟨ms, hms⟩ : ∃ ms, ms = (r + p - X (jw 1) % p) % p := ⟨_, rfl⟩
    have hmsp : ms < p := hms ▸ Nat.mod_lt _ hp0
    have go : ∀ l3 : Option Value, l3 = some (.long (lN ms)) → zX Γ κ (Z, V2) 0 0 (zQ Γ κ (pZ (fun b S' => ∃ V' X', S' = (Z, V') ∧ KS Z uo vo w V' T X' ∧ gJ Z J V V' ∧ xN jw X X' ∧ b = decide (X (jw 2) * p < 4294967296 ^ 6) ∧ (b = false → X' (jw 1) = X (jw 1) ∧ X' (jw 2) = X (jw 2) ∧ vI V' 4 9 J = vI V 4 9 J) ∧ (b = true → X' (jw 1) = X (jw 1) + X (jw 2) * jnK (X (jw 1)) (X (jw 2)) p r ∧ X' (jw 2) = X (jw 2) * p ∧ vI V' 4 9 J = vI V 4 9 J + 1))) 0 0) 55 [some (.ref J), some (.int (nI p)), some (.int (nI r)), l3, none] [] := by
      rintro l3 rfl
      refine z_aload_n F dX4_join_55 rfl ?_
      refine z_getR F dX4_join_56 gr_X4_16 (by assumption) (by assumption) ?_
      refine z_lload_n F dX4_join_59 rfl ?_
      refine z_aload_n F dX4_join_60 rfl ?_
      refine z_getR F dX4_join_61 gr_X4_16 (by assumption) (by assumption) ?_
      refine z_iload_n F dX4_join_64 rfl ?_
      refine z_cVi F (K_restBy hK2 hS (gW.mk w2) hp0 hp) dX4_join_65 ml_X4_49 ok_X8_restBy o2 (by decide) rfl rfl rfl (Nat.le_of_ble_eq_true rfl) (by decide) (by decide) (fun r' S' hr' => ?_)
      obtain ⟨rfl, rfl⟩ := hr'
      rw [x22]
      refine z_iload_n F dX4_join_68 rfl ?_
      refine z_cSl F (c_inverse hmp hp1 hp) dX4_join_69 ml_X4_65 ok_X5_inverse rfl rfl rfl (Nat.le_of_ble_eq_true rfl) (by decide) (by decide) (fun r' S' hr' => ?_)
      obtain ⟨rfl, rfl⟩ := hr'
      have hinv := Nat.mod_lt ((X (jw 2) % p) ^ (p - 2)) hp0
      obtain ⟨kk, hkk⟩ : ∃ kk, kk = ms * ((X (jw 2) % p) ^ (p - 2) % p) % p := ⟨_, rfl⟩
      have hkp : kk < p := hkk ▸ Nat.mod_lt _ hp0
      have ejn : jnK (X (jw 1)) (X (jw 2)) p r = kk := by unfold jnK; rw [← hms, ← hkk]
      refine z_lmul F dX4_join_72 ?_
      refine z_tl (lN_mul _ _) ?_
      refine z_iload_n F dX4_join_73 rfl ?_
      refine z_i2l F dX4_join_74 ?_
      refine z_tl hp64 ?_
      refine z_lrem F dX4_join_75 hpne ?_
      refine z_tl (pk_lRem (mulmod_lt hmsp hinv hp) hp0 (by omega)) ?_
      refine z_l2i F dX4_join_76 ?_
      refine z_ti (lN_i _) ?_
      rw [← hkk]
      have hs7 := wideM hm (show kk < 2147483648 by omega)
      refine z_cVv F (K_scale (k := kk) hK2 hW hS w2 (by omega) (by rw [x22]; exact l7 hs7)) dX4_join_77 ml_X4_57 ok_X8_scale o2 (by decide) rfl rfl rfl (Nat.le_of_ble_eq_true rfl) (by decide) (by decide) (fun S' hS' => ?_)
      obtain ⟨V3, rfl, hK3, hF3⟩ := hS'
      rw [x22] at hK3
      generalize hX3 : va_up X2 (jw 2) (X (jw 2) * kk) = X3 at hK3
      have x31 : X3 (jw 1) = X (jw 1) := by rw [← hX3, up_ne _ _ n12, x21]
      have x32 : X3 (jw 2) = X (jw 2) * kk := by rw [← hX3, up_self]
      have x33 : X3 (jw 3) = X (jw 2) * p := by rw [← hX3, up_ne _ _ n23.symm, x23]
      have x3n : xN jw X X3 := by rw [← hX3]; exact x2n.up (by decide) (by decide)
      refine z_aload_n F dX4_join_80 rfl ?_
      refine z_getR F dX4_join_81 gr_X4_10 (by assumption) (by assumption) ?_
      refine z_aload_n F dX4_join_84 rfl ?_
      refine z_getR F dX4_join_85 gr_X4_16 (by assumption) (by assumption) ?_
      have hinc : X3 (jw 1) + X3 (jw 2) < 4294967296 ^ 16 := by
        rw [x31, x32]
        have h6 : X (jw 1) < 4294967296 ^ 7 := Nat.lt_of_lt_of_le hn (Nat.pow_le_pow_right (by decide) (by decide))
        have h8 : 4294967296 ^ 7 + 4294967296 ^ 7 < 4294967296 ^ 16 := by decide +kernel
        exact Nat.lt_trans (Nat.add_lt_add h6 hs7) h8
      refine z_cVv F (K_increase hK3 hW hS w1 (gW.mk w2) n12.symm hinc) dX4_join_88 ml_X4_71 ok_X8_increase o1 (by decide) rfl rfl rfl (Nat.le_of_ble_eq_true rfl) (by decide) (by decide) (fun S' hS' => ?_)
      obtain ⟨V4, rfl, hK4, hF4⟩ := hS'
      rw [x31, x32] at hK4
      generalize hX4 : va_up X3 (jw 1) (X (jw 1) + X (jw 2) * kk) = X4 at hK4
      have x41 : X4 (jw 1) = X (jw 1) + X (jw 2) * kk := by rw [← hX4, up_self]
      have x43 : X4 (jw 3) = X (jw 2) * p := by rw [← hX4, up_ne _ _ n13.symm, x33]
      have x4n : xN jw X X4 := by rw [← hX4]; exact x3n.up (by decide) (by decide)
      refine z_aload_n F dX4_join_91 rfl ?_
      refine z_getR F dX4_join_92 gr_X4_16 (by assumption) (by assumption) ?_
      refine z_aload_n F dX4_join_95 rfl ?_
      refine z_getR F dX4_join_96 gr_X4_19 (by assumption) (by assumption) ?_
      refine z_cVv F (K_wcopy hK4 hW hS w2 (gW.mk w3)) dX4_join_99 ml_X4_53 ok_X8_copy o2 (by decide) rfl rfl rfl (Nat.le_of_ble_eq_true rfl) (by decide) (by decide) (fun S' hS' => ?_)
      obtain ⟨V5, rfl, hK5, hF5⟩ := hS'
      rw [x43] at hK5
      have hF := ((hF12.trans hF3).trans hF4).trans hF5
      have hv5 := eF.i4 (J := J) (k := 9) hF
      refine z_aload_n F dX4_join_102 rfl ?_
      refine z_dup F dX4_join_103 rfl ?_
      refine z_getI F dX4_join_104 gi_X4_45 (by assumption) ?_
      refine z_ti hv5 ?_
      refine z_iconst (v := nI 1) F dX4_join_107 (by decide) ?_
      refine z_iadd F dX4_join_108 ?_
      refine z_putI F dX4_join_109 pi_X4_45 (zf_4_9 _) (by assumption) ?_
      refine z_iconst (v := nI 1) F dX4_join_112 (by decide) ?_
      exact z_zret F true dX4_join_113 rfl rfl ⟨_, _, rfl, hK5.setI4, (gJ.ofF hF).trans gJ.setI4, x4n.up (by decide) (by decide), hwd.symm, (fun z => nomatch z), fun _ => ⟨by rw [up_ne _ _ n12, x41, ejn], by rw [up_self], by rw [vI_sI_self]; rfl⟩⟩
    have e0 : (nI (X (jw 1) % p)).toInt64 = lN (X (jw 1) % p) := nI_l (by omega)
    refine z_i2l F dX4_join_41 ?_
    refine z_tl e0 ?_
    rcases Nat.lt_or_ge r (X (jw 1) % p) with hlt | hge
    · have hneg : lN r - lN (X (jw 1) % p) < lN 0 := by
        have e1 : lN r - lN (X (jw 1) % p) = iN ((r : Int) - (X (jw 1) % p : Nat)) := lN_subI _ _
        rw [e1, Int64.lt_iff_toInt_lt, pk_lT (by decide)]
        have h9 : ((r : Int) - (X (jw 1) % p : Nat)) < 0 := by omega
        have h10 : -2147483648 ≤ ((r : Int) - (X (jw 1) % p : Nat)) := by omega
        generalize ((r : Int) - (X (jw 1) % p : Nat)) = z at h9 h10
        unfold iN
        rw [Int64.toInt_ofInt_of_le (by omega) (by omega)]
        exact h9
      refine z_lsub F dX4_join_42 ?_
      refine z_lstore_n_3 F dX4_join_43 rfl ?_
      refine z_lload_n F dX4_join_44 rfl ?_
      refine z_lconst (v := lN 0) F dX4_join_45 (by decide) ?_
      refine z_lcmp F dX4_join_46 ?_
      refine z_if_ge (tgt := 55) F dX4_join_47 (by decide) (fun c2 => ?_) (fun c2 => ?_)
      · have h3 := Int64.le_iff_toInt_le.mp ((lg_cmp_ge _ _).mp c2)
        have h4 := Int64.lt_iff_toInt_lt.mp hneg
        exact absurd h4 (Int.not_lt.mpr h3)
      · have e2 : lN r - lN (X (jw 1) % p) + lN p = lN ms := by
          rw [hms, miss hr hnp, if_neg (by omega), show r + p - X (jw 1) % p = r + p - X (jw 1) % p from rfl, ← lN_sub (by omega), ← lN_add, Int64.sub_eq_add_neg, Int64.sub_eq_add_neg, Int64.add_assoc, Int64.add_comm (-_), ← Int64.add_assoc]
        refine z_lload_n F dX4_join_50 rfl ?_
        refine z_iload_n F dX4_join_51 rfl ?_
        refine z_i2l F dX4_join_52 ?_
        refine z_tl hp64 ?_
        refine z_ladd F dX4_join_53 ?_
        refine z_tl e2 ?_
        refine z_lstore_n_3 F dX4_join_54 rfl ?_
        exact go _ rfl
    · have e2 : lN r - lN (X (jw 1) % p) = lN ms := by rw [hms, miss hr hnp, if_pos hge, lN_sub hge]
      refine z_lsub F dX4_join_42 ?_
      refine z_tl e2 ?_
      refine z_lstore_n_3 F dX4_join_43 rfl ?_
      refine z_lload_n F dX4_join_44 rfl ?_
      refine z_lconst (v := lN 0) F dX4_join_45 (by decide) ?_
      refine z_lcmp F dX4_join_46 ?_
      refine z_if_ge (tgt := 55) F dX4_join_47 (by decide) (fun c2 => ?_) (fun c2 => ?_)
      · exact go _ rfl
      · exact absurd ((lg_cmp_ge _ _).mpr ((pk_lLE (a := 0) (b := ms) (by decide) (by omega)).mpr (Nat.zero_le _))) c2
  · have hwd := zb_f c
    refine z_iconst (v := nI 0) F dX4_join_29 (by decide) ?_
    exact z_zret F false dX4_join_30 rfl rfl ⟨V2, X2, rfl, hK2, gJ.ofF hF12, x2n, (decide_eq_false (fun z => hwd (decide_eq_true z))).symm, fun _ => ⟨x21, x22, eF.i4 hF12⟩, (fun z => nomatch z)⟩
end JOINT
