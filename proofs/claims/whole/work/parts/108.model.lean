/-! ===== FractionRowsModel: its fractions ===== -/
/-- only w and isBelow have changed -/
def e2A (a : Nat → Nat) (V V' : Hv) : Prop := eG (fun _ _ _ => False) (fun b => b = a 1 ∨ b = a 2) V V'
theorem eW.trans {a : Nat} {V V1 V2 : Hv} (h1 : eW a V V1) (h2 : eW a V1 V2) : eW a V V2 := eG.trans h1 h2
theorem e2A.trans {a : Nat → Nat} {V V1 V2 : Hv} (h1 : e2A a V V1) (h2 : e2A a V1 V2) : e2A a V V2 := eG.trans h1 h2
/-- the slots hold L, the fractions T -/
def mL (a : Nat → Nat) (V : Hv) (T : Nat → Fr) (L : Nat → Nat) : Prop := mG (vA V (a 1)) L ∧ ∀ f, f < 112 → L (2 * f) = (T f).2.1 ∧ L (2 * f + 1) = (T f).2.2 ∧ vA V (a 2) f = zb (T f).1
def mU (Z : Hz) (V : Hv) (a : Nat → Nat) (T : Nat → Fr) : Hs → Prop := fun S' => ∃ V' L', S' = (Z, V') ∧ e2A a V V' ∧ mL a V' T L'
theorem zb01 (b : Bool) : zb b = 0 ∨ zb b = 1 := by cases b; exact Or.inl rfl; exact Or.inr rfl
theorem pw13 : 4294967296 ^ 12 + 4294967296 ^ 12 ≤ 268435456 ^ 15 := by decide
theorem pw15 : 268435456 ^ 15 ≤ 268435456 ^ 16 := by decide
theorem lt16 {x : Nat} (h : x < 4294967296 ^ 12) : x < 268435456 ^ 16 := Nat.lt_of_lt_of_le h (Nat.le_trans (Nat.le_trans (Nat.le_add_right _ _) pw13) pw15)
theorem lt16a {x y : Nat} (h : x < 4294967296 ^ 12) (h2 : y < 4294967296 ^ 12) : x + y < 268435456 ^ 16 := Nat.lt_of_lt_of_le (Nat.add_lt_add h h2) (Nat.le_trans pw13 pw15)
theorem lt15 {x : Nat} (h : x < 4294967296 ^ 12) : x < 268435456 ^ 15 := Nat.lt_of_lt_of_le h (Nat.le_trans (Nat.le_add_right _ _) pw13)
theorem bl192 {x : Nat} : bl x ≤ 192 ↔ x < 4294967296 ^ 6 := by
  have e : (4294967296 : Nat) ^ 6 = 2 ^ 192 := by decide
  rw [e]; exact bl_le
section MOD8
variable {Γ : Gm} {Z : Hz} {V : Hv} {a : Nat → Nat} {L : Nat → Nat} {T : Nat → Fr} {f : Nat}
theorem mR.ne {i j : Nat} (hR : mR Z a) (h1 : 1 ≤ i) (h2 : i ≤ 11) (h3 : 1 ≤ j) (h4 : j ≤ 11) (h : i ≠ j) : a i ≠ a j := fun e => h (hR.2.2.2.2 i j h1 h2 h3 h4 e)
theorem mR.n21 (hR : mR Z a) : a 2 ≠ a 1 := hR.ne (by decide) (by decide) (by decide) (by decide) (by decide)
theorem eW.m {V' : Hv} (h : eW (a 1) V V') : e2A a V V' := h.mono (fun _ _ _ z => z) (fun b z => Or.inl z)
theorem e2A.sB (V : Hv) (g : Nat → Int32) : e2A a V (sA V (a 2) g) := eG.setA V g (Or.inr rfl)
theorem e2A.sW (V : Hv) (g : Nat → Int32) : e2A a V (sA V (a 1) g) := eG.setA V g (Or.inl rfl)
theorem mL.sc {V' : Hv} {L' : Nat → Nat} (h : mL a V T L) (hR : mR Z a) (hE : eW (a 1) V V') (hG : mG (vA V' (a 1)) L') (hk : ∀ k, k < 224 → L' k = L k) : mL a V' T L' := by
  refine ⟨hG, fun g hg => ?_⟩
  obtain ⟨h1, h2, h3⟩ := h.2 g hg
  exact ⟨(hk _ (by omega)).trans h1, (hk _ (by omega)).trans h2, by rw [hE.2.1 _ hR.n21]; exact h3⟩
theorem mL.put {V' : Hv} {L' : Nat → Nat} {x : Fr} (h : mL a V T L) (hf : f < 112) (hG : mG (vA V' (a 1)) L') (hk : ∀ k, k < 224 → k ≠ 2 * f → k ≠ 2 * f + 1 → L' k = L k) (h1 : L' (2 * f) = x.2.1) (h2 : L' (2 * f + 1) = x.2.2) (hb : ∀ g, g ≠ f → vA V' (a 2) g = vA V (a 2) g) (h3 : vA V' (a 2) f = zb x.1) : mL a V' (va_up T f x) L' := by
  refine ⟨hG, fun g hg => ?_⟩
  by_cases e : g = f
  · subst e
    rw [up_self]
    exact ⟨h1, h2, h3⟩
  · rw [up_ne _ _ e]
    obtain ⟨k1, k2, k3⟩ := h.2 g hg
    exact ⟨(hk _ (by omega) (by omega) (by omega)).trans k1, (hk _ (by omega) (by omega) (by omega)).trans k2, (hb g e).trans k3⟩
theorem mR.inb (hR : mR Z a) (hf : f < 112) : vp_in (nI f) (zn Z (a 2)) := by rw [hR.2.1.2.2.2]; exact vp_in_nI (by omega) (by decide)
theorem mL.rb (hL : mL a V T L) (hf : f < 112) : vA V (a 2) (nI f).toNatClampNeg = zb (T f).1 := by rw [nI_clamp (by omega)]; exact (hL.2 f hf).2.2
set_option maxRecDepth 100000 in
theorem m_nothing (hR : mR Z a) (hL : mL a V T L) (hf : f < 112) : zCt Γ mX10_nothing 1 22 0 0 [.ref (a 0), .int (nI f)] (Z, V) (pV (mU Z V a (va_up T f f0))) := by
  refine zCt.of [some (.ref (a 0)), some (.int (nI f))] pn_X10_nothing rfl (Nat.le_of_ble_eq_true rfl) rfl (fun κ F => ?_)
  obtain ⟨b0, b1, b2, -⟩ := hR.1
  obtain ⟨d1, d2, d3, d4⟩ := hR.2.1
  have n21 := hR.n21
  have inb := hR.inb hf
  refine z_aload_n F dX10_nothing_0 rfl ?_
  refine z_iconst (v := nI 2) F dX10_nothing_1 (by decide) ?_
  refine z_iload_n F dX10_nothing_2 rfl ?_
  refine z_imul F dX10_nothing_3 ?_
  refine z_ti (pk_mul 2 f) ?_
  refine z_cVv F (m_wipe (s := 2 * f) hR hL.1 (by omega)) dX10_nothing_4 ml_X10_55 ok_X10_wipe b0 (by decide) rfl rfl rfl (Nat.le_of_ble_eq_true rfl) (by decide) (by decide) (fun S' hS' => ?_)
  obtain ⟨V1, rfl, hE1, hG1⟩ := hS'
  refine z_aload_n F dX10_nothing_7 rfl ?_
  refine z_iconst (v := nI 2) F dX10_nothing_8 (by decide) ?_
  refine z_iload_n F dX10_nothing_9 rfl ?_
  refine z_imul F dX10_nothing_10 ?_
  refine z_ti (pk_mul 2 f) ?_
  refine z_iconst (v := nI 1) F dX10_nothing_11 (by decide) ?_
  refine z_iadd F dX10_nothing_12 ?_
  refine z_ti (nI_add _ 1) ?_
  refine z_cVv F (m_wipe (s := 2 * f + 1) hR hG1 (by omega)) dX10_nothing_13 ml_X10_55 ok_X10_wipe b0 (by decide) rfl rfl rfl (Nat.le_of_ble_eq_true rfl) (by decide) (by decide) (fun S' hS' => ?_)
  obtain ⟨V2, rfl, hE2, hG2⟩ := hS'
  have inw : vp_in (nI (16 * (2 * f + 1))) (zn Z (a 1)) := hR.inw (s := 2 * f + 1) (k := 0) (by omega) (by decide)
  have hG3 := hG2.put (c := 2 * f + 1) (p := 0) (x := 1) (v := 1) (by decide) (fun i hi => by rw [up_self, dg_0]; exact dg_hi (t := 1) (by decide) (by omega)) (by decide) (by decide)
  have clf : (nI f).toNatClampNeg = f := nI_clamp (by omega)
  have clw' : (nI (16 * (2 * f + 1))).toNatClampNeg = 16 * (2 * f + 1) := nI_clamp (by omega)
  obtain ⟨V3, hV3⟩ : ∃ V3, V3 = sA V2 (a 1) (upd (vA V2 (a 1)) (16 * (2 * f + 1)) (nI 1)) := ⟨_, rfl⟩
  obtain ⟨V4, hV4⟩ : ∃ V4, V4 = sA V3 (a 2) (upd (vA V3 (a 2)) f (nI 0)) := ⟨_, rfl⟩
  refine z_aload_n F dX10_nothing_16 rfl ?_
  refine z_getR F dX10_nothing_17 gr_X10_7 (by assumption) (by assumption) ?_
  refine z_bipush (v := nI 16) F dX10_nothing_20 (by decide) ?_
  refine z_iconst (v := nI 2) F dX10_nothing_22 (by decide) ?_
  refine z_iload_n F dX10_nothing_23 rfl ?_
  refine z_imul F dX10_nothing_24 ?_
  refine z_ti (pk_mul 2 f) ?_
  refine z_iconst (v := nI 1) F dX10_nothing_25 (by decide) ?_
  refine z_iadd F dX10_nothing_26 ?_
  refine z_ti (nI_add _ 1) ?_
  refine z_imul F dX10_nothing_27 ?_
  refine z_ti (pk_mul 16 _) ?_
  refine z_iconst (v := nI 1) F dX10_nothing_28 (by decide) ?_
  refine z_iast F dX10_nothing_29 (by assumption) (by assumption) ?_
  refine z_V (Z := Z) (show _ = V3 by rw [hV3, clw']) ?_
  refine z_aload_n F dX10_nothing_30 rfl ?_
  refine z_getR F dX10_nothing_31 gr_X10_13 (by assumption) (by assumption) ?_
  refine z_iload_n F dX10_nothing_34 rfl ?_
  refine z_iconst (v := nI 0) F dX10_nothing_35 (by decide) ?_
  refine z_zast F dX10_nothing_36 (by assumption) (by assumption) (Or.inl rfl) ?_
  refine z_V (Z := Z) (show _ = V4 by rw [hV4, clf]) ?_
  have hE : e2A a V V4 := by
    rw [hV4, hV3]
    exact (((hE1.m).trans hE2.m).trans (e2A.sW _ _)).trans (e2A.sB _ _)
  have hL4 : mL a V4 (va_up T f f0) (va_up (va_up (va_up L (2 * f) 0) (2 * f + 1) 0) (2 * f + 1) 1) := by
    refine hL.put hf ?_ ?_ ?_ ?_ ?_ ?_
    · rw [hV4, vA_sA_ne _ _ (Ne.symm n21), hV3, vA_sA_self]
      exact hG3
    · intro k hk h1 h2
      rw [up_ne _ _ h2, up_ne _ _ h2, up_ne _ _ h1]
    · rw [up_ne _ _ (by omega), up_ne _ _ (by omega), up_self]
    · rw [up_self]
    · intro g hg
      rw [hV4, vA_sA_self, pk_un hg, hV3, vA_sA_ne _ _ n21, hE2.2.1 _ n21, hE1.2.1 _ n21]
    · rw [hV4, vA_sA_self, pk_us]; rfl
  exact z_vret F dX10_nothing_37 rfl ⟨V4, _, rfl, hE, hL4⟩
set_option maxRecDepth 100000 in
theorem m_isZero (hR : mR Z a) (hL : mL a V T L) (hf : f < 112) : zCt Γ mX10_isZero 1 22 0 0 [.ref (a 0), .int (nI f)] (Z, V) (pZ (q0 Z V (decide ((T f).2.1 = 0)))) := by
  refine zCt.of [some (.ref (a 0)), some (.int (nI f))] pn_X10_isZero rfl (Nat.le_of_ble_eq_true rfl) rfl (fun κ F => ?_)
  obtain ⟨b0, b1, b2, -⟩ := hR.1
  have hu := (hL.2 f hf).1
  refine z_aload_n F dX10_isZero_0 rfl ?_
  refine z_iconst (v := nI 2) F dX10_isZero_1 (by decide) ?_
  refine z_iload_n F dX10_isZero_2 rfl ?_
  refine z_imul F dX10_isZero_3 ?_
  refine z_ti (pk_mul 2 f) ?_
  refine z_cVi F (m_topOf (s := 2 * f) hR hL.1 (by omega)) dX10_isZero_4 ml_X10_60 ok_X10_topOf b0 (by decide) rfl rfl rfl (Nat.le_of_ble_eq_true rfl) (by decide) (by decide) (fun r S' hr => ?_)
  obtain ⟨rfl, t, rfl, ht, hlt, hge⟩ := hr
  rw [hu] at hlt hge
  refine z_if_ne (tgt := 14) F dX10_isZero_7 (by decide) (fun c => ?_) (fun c => ?_)
  · have h : ¬ (T f).2.1 = 0 := fun z => by
      have ht0 : t ≠ 0 := fun e => c (by rw [e]; rfl)
      have := hge (by omega)
      rw [z] at this
      exact absurd (Nat.lt_of_lt_of_le (dgp (t - 1)) this) (Nat.lt_irrefl 0)
    refine z_iconst (v := nI 0) F dX10_isZero_14 (by decide) ?_
    exact z_zret F false dX10_isZero_15 rfl rfl ⟨(decide_eq_false h).symm, rfl⟩
  · have h : (T f).2.1 = 0 := by
      have ht0 : t = 0 := (nI_ne0' (by omega)).mp c
      rw [ht0, Nat.pow_zero] at hlt
      omega
    refine z_iconst (v := nI 1) F dX10_isZero_10 (by decide) ?_
    refine z_goto (tgt := 15) F dX10_isZero_11 (by decide) ?_
    exact z_zret F true dX10_isZero_15 rfl rfl ⟨(decide_eq_true h).symm, rfl⟩
set_option maxRecDepth 100000 in
theorem m_same {g : Nat} (hR : mR Z a) (hL : mL a V T L) (hf : f < 112) (hg : g < 112) : zCt Γ mX10_same 1 23 0 0 [.ref (a 0), .int (nI f), .int (nI g)] (Z, V) (pV (mU Z V a (va_up T g (T f)))) := by
  refine zCt.of [some (.ref (a 0)), some (.int (nI f)), some (.int (nI g))] pn_X10_same rfl (Nat.le_of_ble_eq_true rfl) rfl (fun κ F => ?_)
  obtain ⟨b0, b1, b2, -⟩ := hR.1
  obtain ⟨d1, d2, d3, d4⟩ := hR.2.1
  have n21 := hR.n21
  have inf := hR.inb hf
  have ing := hR.inb hg
  obtain ⟨hu, hv, hb⟩ := hL.2 f hf
  refine z_aload_n F dX10_same_0 rfl ?_
  refine z_iconst (v := nI 2) F dX10_same_1 (by decide) ?_
  refine z_iload_n F dX10_same_2 rfl ?_
  refine z_imul F dX10_same_3 ?_
  refine z_ti (pk_mul 2 f) ?_
  refine z_iconst (v := nI 2) F dX10_same_4 (by decide) ?_
  refine z_iload_n F dX10_same_5 rfl ?_
  refine z_imul F dX10_same_6 ?_
  refine z_ti (pk_mul 2 g) ?_
  refine z_cVv F (m_carryOver (s := 2 * f) (t := 2 * g) hR hL.1 (by omega) (by omega)) dX10_same_7 ml_X10_82 ok_X10_carryOver b0 (by decide) rfl rfl rfl (Nat.le_of_ble_eq_true rfl) (by decide) (by decide) (fun S' hS' => ?_)
  obtain ⟨V1, rfl, hE1, hG1⟩ := hS'
  refine z_aload_n F dX10_same_10 rfl ?_
  refine z_iconst (v := nI 2) F dX10_same_11 (by decide) ?_
  refine z_iload_n F dX10_same_12 rfl ?_
  refine z_imul F dX10_same_13 ?_
  refine z_ti (pk_mul 2 f) ?_
  refine z_iconst (v := nI 1) F dX10_same_14 (by decide) ?_
  refine z_iadd F dX10_same_15 ?_
  refine z_ti (nI_add _ 1) ?_
  refine z_iconst (v := nI 2) F dX10_same_16 (by decide) ?_
  refine z_iload_n F dX10_same_17 rfl ?_
  refine z_imul F dX10_same_18 ?_
  refine z_ti (pk_mul 2 g) ?_
  refine z_iconst (v := nI 1) F dX10_same_19 (by decide) ?_
  refine z_iadd F dX10_same_20 ?_
  refine z_ti (nI_add _ 1) ?_
  refine z_cVv F (m_carryOver (s := 2 * f + 1) (t := 2 * g + 1) hR hG1 (by omega) (by omega)) dX10_same_21 ml_X10_82 ok_X10_carryOver b0 (by decide) rfl rfl rfl (Nat.le_of_ble_eq_true rfl) (by decide) (by decide) (fun S' hS' => ?_)
  obtain ⟨V2, rfl, hE2, hG2⟩ := hS'
  have hb2 : vA V2 (a 2) = vA V (a 2) := by rw [hE2.2.1 _ n21, hE1.2.1 _ n21]
  have rb : vA V2 (a 2) (nI f).toNatClampNeg = zb (T f).1 := by rw [hb2]; exact hL.rb hf
  have clg : (nI g).toNatClampNeg = g := nI_clamp (by omega)
  obtain ⟨V4, hV4⟩ : ∃ V4, V4 = sA V2 (a 2) (upd (vA V2 (a 2)) g (zb (T f).1)) := ⟨_, rfl⟩
  refine z_aload_n F dX10_same_24 rfl ?_
  refine z_getR F dX10_same_25 gr_X10_13 (by assumption) (by assumption) ?_
  refine z_iload_n F dX10_same_28 rfl ?_
  refine z_aload_n F dX10_same_29 rfl ?_
  refine z_getR F dX10_same_30 gr_X10_13 (by assumption) (by assumption) ?_
  refine z_iload_n F dX10_same_33 rfl ?_
  refine z_zald F dX10_same_34 (by assumption) (by assumption) ?_
  refine z_ti rb ?_
  refine z_zast F dX10_same_35 (by assumption) (by assumption) (zb01 _) ?_
  refine z_V (Z := Z) (show _ = V4 by rw [hV4, clg]) ?_
  have hE : e2A a V V4 := by
    rw [hV4]
    exact ((hE1.m).trans hE2.m).trans (e2A.sB _ _)
  have hL4 : mL a V4 (va_up T g (T f)) (va_up (va_up L (2 * g) (L (2 * f))) (2 * g + 1) (va_up L (2 * g) (L (2 * f)) (2 * f + 1))) := by
    refine hL.put hg (by rw [hV4, vA_sA_ne _ _ (Ne.symm n21)]; exact hG2) ?_ ?_ ?_ ?_ ?_
    · intro k hk h1 h2
      rw [up_ne _ _ h2, up_ne _ _ h1]
    · rw [up_ne _ _ (by omega), up_self, hu]
    · rw [up_self, up_ne _ _ (by omega), hv]
    · intro i hi
      rw [hV4, vA_sA_self, pk_un hi, hb2]
    · rw [hV4, vA_sA_self, pk_us]
  exact z_vret F dX10_same_36 rfl ⟨V4, _, rfl, hE, hL4⟩
set_option maxRecDepth 100000 in
theorem m_sizeOf (hR : mR Z a) (hL : mL a V T L) (hf : f < 112) : zCt Γ mX10_sizeOf 2 46 0 0 [.ref (a 0), .int (nI f)] (Z, V) (pI (q0 Z V (nI (fsz (T f))))) := by
  refine zCt.of [some (.ref (a 0)), some (.int (nI f))] pn_X10_sizeOf rfl (Nat.le_of_ble_eq_true rfl) rfl (fun κ F => ?_)
  obtain ⟨b0, b1, b2, -⟩ := hR.1
  obtain ⟨hu, hv, hb⟩ := hL.2 f hf
  refine z_aload_n F dX10_sizeOf_0 rfl ?_
  refine z_iconst (v := nI 2) F dX10_sizeOf_1 (by decide) ?_
  refine z_iload_n F dX10_sizeOf_2 rfl ?_
  refine z_imul F dX10_sizeOf_3 ?_
  refine z_ti (pk_mul 2 f) ?_
  refine z_cVi F (m_bitsOf (s := 2 * f) hR hL.1 (by omega)) dX10_sizeOf_4 ml_X10_65 ok_X10_bitsOf b0 (by decide) rfl rfl rfl (Nat.le_of_ble_eq_true rfl) (by decide) (by decide) (fun r S' hr => ?_)
  obtain ⟨rfl, rfl⟩ := hr
  refine z_aload_n F dX10_sizeOf_7 rfl ?_
  refine z_iconst (v := nI 2) F dX10_sizeOf_8 (by decide) ?_
  refine z_iload_n F dX10_sizeOf_9 rfl ?_
  refine z_imul F dX10_sizeOf_10 ?_
  refine z_ti (pk_mul 2 f) ?_
  refine z_iconst (v := nI 1) F dX10_sizeOf_11 (by decide) ?_
  refine z_iadd F dX10_sizeOf_12 ?_
  refine z_ti (nI_add _ 1) ?_
  refine z_cVi F (m_bitsOf (s := 2 * f + 1) hR hL.1 (by omega)) dX10_sizeOf_13 ml_X10_65 ok_X10_bitsOf b0 (by decide) rfl rfl rfl (Nat.le_of_ble_eq_true rfl) (by decide) (by decide) (fun r S' hr => ?_)
  obtain ⟨rfl, rfl⟩ := hr
  rw [hu, hv]
  refine z_iadd F dX10_sizeOf_16 ?_
  refine z_ti (nI_add _ _) ?_
  exact z_iret F dX10_sizeOf_17 rfl ⟨rfl, rfl⟩
end MOD8
