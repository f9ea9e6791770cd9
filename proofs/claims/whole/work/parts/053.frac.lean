/-! ===== Fractions: signs and parts; the methods of Fraction ===== -/
/-- the Fraction q with its parts u, v -/
def fR (Z : Hz) (q u v : Nat) : Prop := zIn Z q 3 ∧ zR Z 3 0 q = some u ∧ zR Z 3 1 q = some v ∧ iW Z u ∧ iW Z v
/-- all Fractions of the pool: their parts are apart from one another, and from the Arithmetic's own -/
def fS (Z : Hz) (uo vo w : Nat → Nat) : Prop := (∀ q, zIn Z q 3 → fR Z q (uo q) (vo q) ∧ ∀ k, k < 12 → uo q ≠ w k ∧ vo q ≠ w k) ∧ (∀ q q', zIn Z q 3 → zIn Z q' 3 → (uo q = uo q' → q = q') ∧ (vo q = vo q' → q = q') ∧ uo q ≠ vo q')
/-- Wholes hold val, Fractions' signs are bel -/
def CF (Z : Hz) (V : Hv) (val : Nat → Nat) (bel : Nat → Bool) : Prop := CV Z V val ∧ ∀ q, zIn Z q 3 → vI V 3 2 q = zb (bel q)
/-- nothing but Wholes and signs has changed -/
def eF (Z : Hz) (V V' : Hv) : Prop := (∀ ci k a, ¬ (ci = 7 ∧ k = 1) → ¬ (ci = 3 ∧ k = 2) → vI V' ci k a = vI V ci k a) ∧ (∀ a, (∀ o, ¬ wh Z o a) → vA V' a = vA V a) ∧ vJ V' = vJ V
theorem eF.refl (Z : Hz) (V : Hv) : eF Z V V := ⟨fun _ _ _ _ _ => rfl, fun _ _ => rfl, rfl⟩
theorem eF.trans {Z : Hz} {V V1 V2 : Hv} (h1 : eF Z V V1) (h2 : eF Z V1 V2) : eF Z V V2 := ⟨fun ci k a h h' => (h2.1 ci k a h h').trans (h1.1 ci k a h h'), fun a h => (h2.2.1 a h).trans (h1.2.1 a h), h2.2.2.trans h1.2.2⟩
theorem eN.F {Z : Hz} {V V' : Hv} (h : eN Z V V') : eF Z V V' := ⟨fun ci k a h1 _ => h.1 ci k a h1, h.2.1, h.2.2⟩
theorem CF.w {Z : Hz} {V V' : Hv} {val val' : Nat → Nat} {bel : Nat → Bool} (h : CF Z V val bel) (hC : CV Z V' val') (hN : eN Z V V') : CF Z V' val' bel := ⟨hC, fun q hq => (hN.1 3 2 q (by decide)).trans (h.2 q hq)⟩
theorem CF.sgn {Z : Hz} {V : Hv} {val : Nat → Nat} {bel : Nat → Bool} {q : Nat} {x : Int32} (h : CF Z V val bel) (b : Bool) (hx : x = zb b) : CF Z (sI V 3 2 q x) val (va_up bel q b) ∧ eF Z V (sI V 3 2 q x) := by
  subst hx
  refine ⟨⟨fun o g ho => ⟨(h.1 o g ho).1, ?_⟩, fun q' hq' => ?_⟩, fun ci k a _ h2 => vI_sI_ne _ _ (fun z => h2 ⟨z.1, z.2.1⟩), fun _ _ => rfl, rfl⟩
  · rw [vI_sI_ne _ _ (fun z => absurd z.1 (by decide))]
    exact (h.1 o g ho).2
  · by_cases e : q' = q
    · subst e
      rw [vI_sI_self, up_self]
    · rw [vI_sI_ne _ _ (fun z => e z.2.2), up_ne _ _ e]
      exact h.2 q' hq'
/-- a Fraction as it is told: sign, parts -/
abbrev Fr : Type := Bool × Nat × Nat
abbrev fr (val : Nat → Nat) (bel : Nat → Bool) (uo vo : Nat → Nat) (q : Nat) : Fr := (bel q, val (uo q), val (vo q))
/-- what a method leaves that changes the Fraction q to x (and the Arithmetic's own Wholes) -/
def tP (Z : Hz) (V : Hv) (val : Nat → Nat) (bel : Nat → Bool) (uo vo w : Nat → Nat) (q : Nat) (x : Fr) : Hs → Prop := fun S' => ∃ (V' : Hv) (val' : Nat → Nat) (bel' : Nat → Bool), S' = (Z, V') ∧ CF Z V' val' bel' ∧ eF Z V V' ∧ fr val' bel' uo vo q = x ∧ eV (fun o => o = uo q ∨ o = vo q ∨ aW w o) val val' ∧ ∀ q', q' ≠ q → bel' q' = bel q'
section FRACM
variable {Γ : Gm} {Z : Hz} {V : Hv} {val : Nat → Nat} {bel : Nat → Bool} {uo vo w : Nat → Nat} {q q2 a b : Nat}
set_option maxRecDepth 100000 in
theorem c_fIsZero (hC : CF Z V val bel) (hS : fS Z uo vo w) (hq : zIn Z q 3) : zCt Γ mX3_isZero 1 20 0 0 [.ref q] (Z, V) (pZ (q0 Z V (decide (val (uo q) = 0)))) := by
  refine zCt.of [some (.ref q)] pn_X3_isZero rfl (Nat.le_of_ble_eq_true rfl) rfl (fun κ F => ?_)
  obtain ⟨-, h0, h1, iu, iv⟩ := (hS.1 q hq).1
  have ku : zIn Z (uo q) 7 := iu.choose_spec.1
  refine z_aload_n F dX3_isZero_0 rfl ?_
  refine z_getR F dX3_isZero_1 gr_X3_10 (by assumption) (by assumption) ?_
  refine z_cVz F (C_isZero hC.1 iu) dX3_isZero_4 ml_X3_30 ok_X8_isZero ku (by decide) rfl rfl rfl (Nat.le_of_ble_eq_true rfl) (by decide) (by decide) (fun r S' hr => ?_)
  obtain ⟨rfl, rfl⟩ := hr
  exact z_zret F _ dX3_isZero_7 rfl rfl ⟨rfl, rfl⟩
set_option maxRecDepth 100000 in
theorem c_fSize (hC : CF Z V val bel) (hS : fS Z uo vo w) (hq : zIn Z q 3) : zCt Γ mX3_size 2 41 0 0 [.ref q] (Z, V) (pI (q0 Z V (nI (bl (val (uo q)) + bl (val (vo q)))))) := by
  refine zCt.of [some (.ref q)] pn_X3_size rfl (Nat.le_of_ble_eq_true rfl) rfl (fun κ F => ?_)
  obtain ⟨-, h0, h1, iu, iv⟩ := (hS.1 q hq).1
  have ku : zIn Z (uo q) 7 := iu.choose_spec.1
  have kv : zIn Z (vo q) 7 := iv.choose_spec.1
  refine z_aload_n F dX3_size_0 rfl ?_
  refine z_getR F dX3_size_1 gr_X3_10 (by assumption) (by assumption) ?_
  refine z_cVi F (C_bits hC.1 iu) dX3_size_4 ml_X3_34 ok_X8_bits ku (by decide) rfl rfl rfl (Nat.le_of_ble_eq_true rfl) (by decide) (by decide) (fun r S' hr => ?_)
  obtain ⟨rfl, rfl⟩ := hr
  refine z_aload_n F dX3_size_7 rfl ?_
  refine z_getR F dX3_size_8 gr_X3_16 (by assumption) (by assumption) ?_
  refine z_cVi F (C_bits hC.1 iv) dX3_size_11 ml_X3_34 ok_X8_bits kv (by decide) rfl rfl rfl (Nat.le_of_ble_eq_true rfl) (by decide) (by decide) (fun r S' hr => ?_)
  obtain ⟨rfl, rfl⟩ := hr
  refine z_iadd F dX3_size_14 ?_
  refine z_ti (nI_add _ _) ?_
  exact z_iret F dX3_size_15 rfl ⟨rfl, rfl⟩
set_option maxRecDepth 100000 in
theorem c_setZero (hC : CF Z V val bel) (hJ : wInj Z) (hS : fS Z uo vo w) (hq : zIn Z q 3) : zCt Γ mX3_setZero 1 23 0 0 [.ref q] (Z, V) (pV (tP Z V val bel uo vo w q (false, 0, 1))) := by
  refine zCt.of [some (.ref q)] pn_X3_setZero rfl (Nat.le_of_ble_eq_true rfl) rfl (fun κ F => ?_)
  obtain ⟨-, h0, h1, iu, iv⟩ := (hS.1 q hq).1
  have ku : zIn Z (uo q) 7 := iu.choose_spec.1
  have kv : zIn Z (vo q) 7 := iv.choose_spec.1
  have nuv : uo q ≠ vo q := (hS.2 q q hq hq).2.2
  refine z_aload_n F dX3_setZero_0 rfl ?_
  refine z_iconst (v := nI 0) F dX3_setZero_1 (by decide) ?_
  refine z_putI F dX3_setZero_2 pi_X3_38 (zf_3_2 (Or.inl rfl)) (by assumption) ?_
  obtain ⟨hC1, hF1⟩ := hC.sgn (q := q) (x := nI 0) false rfl
  generalize sI V 3 2 q (nI 0) = V1 at hC1 hF1
  refine z_aload_n F dX3_setZero_5 rfl ?_
  refine z_getR F dX3_setZero_6 gr_X3_10 (by assumption) (by assumption) ?_
  refine z_lconst (v := lN 0) F dX3_setZero_9 (by decide) ?_
  refine z_cVv F (C_setBits hC1.1 hJ iu (show 0 < 18446744073709551616 by decide)) dX3_setZero_10 ml_X3_19 ok_X8_setBits ku (by decide) rfl rfl rfl (Nat.le_of_ble_eq_true rfl) (by decide) (by decide) (fun S' hS' => ?_)
  obtain ⟨V2, rfl, hC2, hN2⟩ := hS'
  refine z_aload_n F dX3_setZero_13 rfl ?_
  refine z_getR F dX3_setZero_14 gr_X3_16 (by assumption) (by assumption) ?_
  refine z_lconst (v := lN 1) F dX3_setZero_17 (by decide) ?_
  refine z_cVv F (C_setBits hC2 hJ iv (show 1 < 18446744073709551616 by decide)) dX3_setZero_18 ml_X3_19 ok_X8_setBits kv (by decide) rfl rfl rfl (Nat.le_of_ble_eq_true rfl) (by decide) (by decide) (fun S' hS' => ?_)
  obtain ⟨V3, rfl, hC3, hN3⟩ := hS'
  exact z_vret F dX3_setZero_21 rfl ⟨V3, _, _, rfl, (hC1.w hC2 hN2).w hC3 hN3, (hF1.trans hN2.F).trans hN3.F, by simp only [fr]; rw [up_self, up_ne _ _ nuv, up_self, up_self], ((eV.refl _ _).up (Or.inl rfl)).up (Or.inr (Or.inl rfl)), fun q' hq' => up_ne _ _ hq'⟩
set_option maxRecDepth 100000 in
theorem c_setWhole (hC : CF Z V val bel) (hJ : wInj Z) (hS : fS Z uo vo w) (hq : zIn Z q 3) (ha : iW Z a) : zCt Γ mX3_setWhole 2 59 0 0 [.ref q, .ref a] (Z, V) (pV (tP Z V val bel uo vo w q (false, val a, 1))) := by
  refine zCt.of [some (.ref q), some (.ref a)] pn_X3_setWhole rfl (Nat.le_of_ble_eq_true rfl) rfl (fun κ F => ?_)
  obtain ⟨-, h0, h1, iu, iv⟩ := (hS.1 q hq).1
  have ku : zIn Z (uo q) 7 := iu.choose_spec.1
  have kv : zIn Z (vo q) 7 := iv.choose_spec.1
  have nuv : uo q ≠ vo q := (hS.2 q q hq hq).2.2
  refine z_aload_n F dX3_setWhole_0 rfl ?_
  refine z_iconst (v := nI 0) F dX3_setWhole_1 (by decide) ?_
  refine z_putI F dX3_setWhole_2 pi_X3_38 (zf_3_2 (Or.inl rfl)) (by assumption) ?_
  obtain ⟨hC1, hF1⟩ := hC.sgn (q := q) (x := nI 0) false rfl
  generalize sI V 3 2 q (nI 0) = V1 at hC1 hF1
  refine z_aload_n F dX3_setWhole_5 rfl ?_
  refine z_getR F dX3_setWhole_6 gr_X3_10 (by assumption) (by assumption) ?_
  refine z_aload_n F dX3_setWhole_9 rfl ?_
  refine z_cVv F (C_copy hC1.1 hJ iu ha) dX3_setWhole_10 ml_X3_42 ok_X8_copy ku (by decide) rfl rfl rfl (Nat.le_of_ble_eq_true rfl) (by decide) (by decide) (fun S' hS' => ?_)
  obtain ⟨V2, rfl, hC2, hN2⟩ := hS'
  refine z_aload_n F dX3_setWhole_13 rfl ?_
  refine z_getR F dX3_setWhole_14 gr_X3_16 (by assumption) (by assumption) ?_
  refine z_lconst (v := lN 1) F dX3_setWhole_17 (by decide) ?_
  refine z_cVv F (C_setBits hC2 hJ iv (show 1 < 18446744073709551616 by decide)) dX3_setWhole_18 ml_X3_19 ok_X8_setBits kv (by decide) rfl rfl rfl (Nat.le_of_ble_eq_true rfl) (by decide) (by decide) (fun S' hS' => ?_)
  obtain ⟨V3, rfl, hC3, hN3⟩ := hS'
  exact z_vret F dX3_setWhole_21 rfl ⟨V3, _, _, rfl, (hC1.w hC2 hN2).w hC3 hN3, (hF1.trans hN2.F).trans hN3.F, by simp only [fr]; rw [up_self, up_ne _ _ nuv, up_self, up_self], ((eV.refl _ _).up (Or.inl rfl)).up (Or.inr (Or.inl rfl)), fun q' hq' => up_ne _ _ hq'⟩
set_option maxRecDepth 100000 in
/-- set(isBelow, upper, lower) -/
theorem c_fSet {s : Bool} (hC : CF Z V val bel) (hJ : wInj Z) (hS : fS Z uo vo w) (hq : zIn Z q 3) (ha : iW Z a) (hb : iW Z b) (hbu : b ≠ uo q) : zCt Γ mX3_set 2 59 0 0 [.ref q, .int (zb s), .ref a, .ref b] (Z, V) (pV (tP Z V val bel uo vo w q (s && decide (val a ≠ 0), val a, val b))) := by
  refine zCt.of [some (.ref q), some (.int (zb s)), some (.ref a), some (.ref b)] pn_X3_set rfl (Nat.le_of_ble_eq_true rfl) rfl (fun κ F => ?_)
  obtain ⟨-, h0, h1, iu, iv⟩ := (hS.1 q hq).1
  have ku : zIn Z (uo q) 7 := iu.choose_spec.1
  have kv : zIn Z (vo q) 7 := iv.choose_spec.1
  have ka : zIn Z a 7 := ha.choose_spec.1
  have nuv : uo q ≠ vo q := (hS.2 q q hq hq).2.2
  generalize hQ : zQ Γ κ (pV (tP Z V val bel uo vo w q (s && decide (val a ≠ 0), val a, val b))) 0 0 = Q
  have tail : ∀ (V1 : Hv) (t : Bool), t = (s && decide (val a ≠ 0)) → CF Z V1 val (va_up bel q t) → eF Z V V1 → zX Γ κ (Z, V1) 0 0 Q 20 [some (.ref q), some (.int (zb s)), some (.ref a), some (.ref b)] [] := by
    intro V1 t ht hC1 hF1
    refine z_aload_n F dX3_set_20 rfl ?_
    refine z_getR F dX3_set_21 gr_X3_10 (by assumption) (by assumption) ?_
    refine z_aload_n F dX3_set_24 rfl ?_
    refine z_cVv F (C_copy hC1.1 hJ iu ha) dX3_set_25 ml_X3_42 ok_X8_copy ku (by decide) rfl rfl rfl (Nat.le_of_ble_eq_true rfl) (by decide) (by decide) (fun S' hS' => ?_)
    obtain ⟨V2, rfl, hC2, hN2⟩ := hS'
    refine z_aload_n F dX3_set_28 rfl ?_
    refine z_getR F dX3_set_29 gr_X3_16 (by assumption) (by assumption) ?_
    refine z_aload_n F dX3_set_32 rfl ?_
    refine z_cVv F (C_copy hC2 hJ iv hb) dX3_set_33 ml_X3_42 ok_X8_copy kv (by decide) rfl rfl rfl (Nat.le_of_ble_eq_true rfl) (by decide) (by decide) (fun S' hS' => ?_)
    obtain ⟨V3, rfl, hC3, hN3⟩ := hS'
    rw [up_ne _ _ hbu] at hC3
    subst hQ
    exact z_vret F dX3_set_36 rfl ⟨V3, _, _, rfl, (hC1.w hC2 hN2).w hC3 hN3, (hF1.trans hN2.F).trans hN3.F, by simp only [fr]; rw [up_self, up_ne _ _ nuv, up_self, up_self, ht], ((eV.refl _ _).up (Or.inl rfl)).up (Or.inr (Or.inl rfl)), fun q' hq' => up_ne _ _ hq'⟩
  refine z_aload_n F dX3_set_0 rfl ?_
  refine z_iload_n F dX3_set_1 rfl ?_
  refine z_if_eq (tgt := 16) F dX3_set_2 (by decide) (fun c => ?_) (fun c => ?_)
  · have hs := (zb_eq0 s).mp c
    subst hs
    refine z_iconst (v := nI 0) F dX3_set_16 (by decide) ?_
    refine z_putI F dX3_set_17 pi_X3_38 (zf_3_2 (Or.inl rfl)) (by assumption) ?_
    obtain ⟨hC1, hF1⟩ := hC.sgn (q := q) (x := nI 0) false rfl
    exact tail _ false rfl hC1 hF1
  · have hs : s = true := by
      cases s with
      | true => rfl
      | false => exact absurd rfl c
    subst hs
    refine z_aload_n F dX3_set_5 rfl ?_
    refine z_cVz F (C_isZero hC.1 ha) dX3_set_6 ml_X3_30 ok_X8_isZero ka (by decide) rfl rfl rfl (Nat.le_of_ble_eq_true rfl) (by decide) (by decide) (fun r S' hr => ?_)
    obtain ⟨rfl, rfl⟩ := hr
    refine z_if_ne (tgt := 16) F dX3_set_9 (by decide) (fun c2 => ?_) (fun c2 => ?_)
    · have hz : val a = 0 := by
        apply Decidable.byContradiction
        intro z
        exact c2 (by simp [z])
      refine z_iconst (v := nI 0) F dX3_set_16 (by decide) ?_
      refine z_putI F dX3_set_17 pi_X3_38 (zf_3_2 (Or.inl rfl)) (by assumption) ?_
      obtain ⟨hC1, hF1⟩ := hC.sgn (q := q) (x := nI 0) false rfl
      exact tail _ false (by simp [hz]) hC1 hF1
    · have hz : ¬ val a = 0 := fun z => by
        rw [z] at c2
        exact absurd c2 (by decide)
      refine z_iconst (v := nI 1) F dX3_set_12 (by decide) ?_
      refine z_goto (tgt := 17) F dX3_set_13 (by decide) ?_
      refine z_putI F dX3_set_17 pi_X3_38 (zf_3_2 (Or.inr rfl)) (by assumption) ?_
      obtain ⟨hC1, hF1⟩ := hC.sgn (q := q) (x := nI 1) true rfl
      exact tail _ true (by simp [hz]) hC1 hF1
set_option maxRecDepth 100000 in
theorem c_fCopy (hC : CF Z V val bel) (hJ : wInj Z) (hS : fS Z uo vo w) (hq : zIn Z q 3) (hq2 : zIn Z q2 3) : zCt Γ mX3_copy 3 82 0 0 [.ref q, .ref q2] (Z, V) (pV (tP Z V val bel uo vo w q (bel q2 && decide (val (uo q2) ≠ 0), val (uo q2), val (vo q2)))) := by
  refine zCt.of [some (.ref q), some (.ref q2)] pn_X3_copy rfl (Nat.le_of_ble_eq_true rfl) rfl (fun κ F => ?_)
  obtain ⟨-, h0, h1, iu, iv⟩ := (hS.1 q2 hq2).1
  refine z_aload_n F dX3_copy_0 rfl ?_
  refine z_aload_n F dX3_copy_1 rfl ?_
  refine z_getI F dX3_copy_2 gi_X3_38 (by assumption) ?_
  refine z_ti (hC.2 q2 hq2) ?_
  refine z_aload_n F dX3_copy_5 rfl ?_
  refine z_getR F dX3_copy_6 gr_X3_10 (by assumption) (by assumption) ?_
  refine z_aload_n F dX3_copy_9 rfl ?_
  refine z_getR F dX3_copy_10 gr_X3_16 (by assumption) (by assumption) ?_
  refine z_cVv F (c_fSet hC hJ hS hq iu iv (Ne.symm (hS.2 q q2 hq hq2).2.2)) dX3_copy_13 ml_X3_46 ok_X3_set hq (by decide) rfl rfl rfl (Nat.le_of_ble_eq_true rfl) (by decide) (by decide) (fun S' hS' => ?_)
  exact z_vret F dX3_copy_16 rfl hS'
set_option maxRecDepth 100000 in
theorem c_negate (hC : CF Z V val bel) (hS : fS Z uo vo w) (hq : zIn Z q 3) : zCt Γ mX3_negate 1 20 0 0 [.ref q] (Z, V) (pV (tP Z V val bel uo vo w q (!bel q && decide (val (uo q) ≠ 0), val (uo q), val (vo q)))) := by
  refine zCt.of [some (.ref q)] pn_X3_negate rfl (Nat.le_of_ble_eq_true rfl) rfl (fun κ F => ?_)
  obtain ⟨-, h0, h1, iu, iv⟩ := (hS.1 q hq).1
  have ku : zIn Z (uo q) 7 := iu.choose_spec.1
  generalize hQ : zQ Γ κ (pV (tP Z V val bel uo vo w q (!bel q && decide (val (uo q) ≠ 0), val (uo q), val (vo q)))) 0 0 = Q
  have tail : ∀ (V1 : Hv) (t : Bool), t = (!bel q && decide (val (uo q) ≠ 0)) → CF Z V1 val (va_up bel q t) → eF Z V V1 → zX Γ κ (Z, V1) 0 0 Q 26 [some (.ref q)] [] := by
    intro V1 t ht hC1 hF1
    subst hQ
    exact z_vret F dX3_negate_26 rfl ⟨V1, _, _, rfl, hC1, hF1, by simp only [fr]; rw [up_self, ht], eV.refl _ _, fun q' hq' => up_ne _ _ hq'⟩
  refine z_aload_n F dX3_negate_0 rfl ?_
  refine z_aload_n F dX3_negate_1 rfl ?_
  refine z_getI F dX3_negate_2 gi_X3_38 (by assumption) ?_
  refine z_ti (hC.2 q hq) ?_
  refine z_if_ne (tgt := 22) F dX3_negate_5 (by decide) (fun c => ?_) (fun c => ?_)
  · have hs : bel q = true := by
      cases h : bel q with
      | true => rfl
      | false => rw [h] at c; exact absurd rfl c
    refine z_iconst (v := nI 0) F dX3_negate_22 (by decide) ?_
    refine z_putI F dX3_negate_23 pi_X3_38 (zf_3_2 (Or.inl rfl)) (by assumption) ?_
    obtain ⟨hC1, hF1⟩ := hC.sgn (q := q) (x := nI 0) false rfl
    exact tail _ false (by simp [hs]) hC1 hF1
  · have hs : bel q = false := (zb_eq0 _).mp c
    refine z_aload_n F dX3_negate_8 rfl ?_
    refine z_getR F dX3_negate_9 gr_X3_10 (by assumption) (by assumption) ?_
    refine z_cVz F (C_isZero hC.1 iu) dX3_negate_12 ml_X3_30 ok_X8_isZero ku (by decide) rfl rfl rfl (Nat.le_of_ble_eq_true rfl) (by decide) (by decide) (fun r S' hr => ?_)
    obtain ⟨rfl, rfl⟩ := hr
    refine z_if_ne (tgt := 22) F dX3_negate_15 (by decide) (fun c2 => ?_) (fun c2 => ?_)
    · have hz : val (uo q) = 0 := by
        apply Decidable.byContradiction
        intro z
        exact c2 (by simp [z])
      refine z_iconst (v := nI 0) F dX3_negate_22 (by decide) ?_
      refine z_putI F dX3_negate_23 pi_X3_38 (zf_3_2 (Or.inl rfl)) (by assumption) ?_
      obtain ⟨hC1, hF1⟩ := hC.sgn (q := q) (x := nI 0) false rfl
      exact tail _ false (by simp [hz]) hC1 hF1
    · have hz : ¬ val (uo q) = 0 := fun z => by
        rw [z] at c2
        exact absurd c2 (by decide)
      refine z_iconst (v := nI 1) F dX3_negate_18 (by decide) ?_
      refine z_goto (tgt := 23) F dX3_negate_19 (by decide) ?_
      refine z_putI F dX3_negate_23 pi_X3_38 (zf_3_2 (Or.inr rfl)) (by assumption) ?_
      obtain ⟨hC1, hF1⟩ := hC.sgn (q := q) (x := nI 1) true rfl
      exact tail _ true (by simp [hz, hs]) hC1 hF1
end FRACM
