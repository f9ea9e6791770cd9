/-! ===== FractionRowsModel: its slots ===== -/
/-- addresses: the object, w, isBelow, pivotColumn, pivotRow, pivotSize, newColumn, newRow, newSize, order, text, figure -/
def mR (Z : Hz) (a : Nat → Nat) : Prop := (zIn Z (a 0) 9 ∧ zR Z 9 0 (a 0) = some (a 1) ∧ zR Z 9 1 (a 0) = some (a 2) ∧ zR Z 9 10 (a 0) = some (a 3) ∧ zR Z 9 11 (a 0) = some (a 4) ∧ zR Z 9 12 (a 0) = some (a 5) ∧ zR Z 9 13 (a 0) = some (a 6) ∧ zR Z 9 14 (a 0) = some (a 7) ∧ zR Z 9 15 (a 0) = some (a 8) ∧ zR Z 9 16 (a 0) = some (a 9) ∧ zR Z 9 19 (a 0) = some (a 10) ∧ zR Z 9 21 (a 0) = some (a 11)) ∧ (zIn Z (a 1) 11 ∧ zn Z (a 1) = 3840 ∧ zIn Z (a 2) 12 ∧ zn Z (a 2) = 112) ∧ (∀ k, 3 ≤ k → k ≤ 9 → zIn Z (a k) 11 ∧ zn Z (a k) = 5) ∧ (zIn Z (a 10) 11 ∧ zn Z (a 10) = 120 ∧ zIn Z (a 11) 11 ∧ zn Z (a 11) = 120) ∧ ∀ i j, 1 ≤ i → i ≤ 11 → 1 ≤ j → j ≤ 11 → a i = a j → i = j
/-- the slots hold L -/
def mG (g : Nat → Int32) (L : Nat → Nat) : Prop := (∀ s k, s < 240 → k < 16 → g (16 * s + k) = nI (dg (L s) k)) ∧ ∀ s, s < 240 → L s < 268435456 ^ 16
/-- but that the first k digits of slot c are those of x -/
def mQ (g : Nat → Int32) (L : Nat → Nat) (c k x : Nat) : Prop := (∀ s j, s < 240 → j < 16 → s ≠ c ∨ k ≤ j → g (16 * s + j) = nI (dg (L s) j)) ∧ ∀ j, j < k → g (16 * c + j) = nI (dg x j)
theorem mQ.zero {g : Nat → Int32} {L : Nat → Nat} {c x : Nat} (h : mG g L) : mQ g L c 0 x := ⟨fun s j hs hj _ => h.1 s j hs hj, fun j hj => absurd hj (Nat.not_lt_zero j)⟩
theorem mQ.step {g : Nat → Int32} {L : Nat → Nat} {c k x : Nat} {v : Int32} (h : mQ g L c k x) (hk : k < 16) (hv : v = nI (dg x k)) : mQ (upd g (16 * c + k) v) L c (k + 1) x := by
  refine ⟨fun s j hs hj hsj => ?_, fun j hj => ?_⟩
  · rw [pk_un (by omega)]
    exact h.1 s j hs hj (by omega)
  · by_cases e : j = k
    · subst e; rw [pk_us, hv]
    · rw [pk_un (by omega)]; exact h.2 j (by omega)
theorem mQ.done {g : Nat → Int32} {L : Nat → Nat} {c k x : Nat} (h : mQ g L c k x) (hL : ∀ s, s < 240 → L s < 268435456 ^ 16) (hx : x < 268435456 ^ 16) (hd : ∀ j, k ≤ j → j < 16 → dg (L c) j = dg x j) : mG g (va_up L c x) := by
  refine ⟨fun s j hs hj => ?_, fun s hs => ?_⟩
  · by_cases e : s = c
    · subst e
      rw [up_self]
      rcases Nat.lt_or_ge j k with z | z
      · exact h.2 j z
      · rw [← hd j z hj]; exact h.1 s j hs hj (Or.inr z)
    · rw [up_ne _ _ e]; exact h.1 s j hs hj (Or.inl e)
  · by_cases e : s = c
    · rw [e, up_self]; exact hx
    · rw [up_ne _ _ e]; exact hL s hs
/-- only the array a has changed -/
def eW (a : Nat) (V V' : Hv) : Prop := eG (fun _ _ _ => False) (fun b => b = a) V V'
def mP (Z : Hz) (V : Hv) (a : Nat) (L : Nat → Nat) : Hs → Prop := fun S' => ∃ V', S' = (Z, V') ∧ eW a V V' ∧ mG (vA V' a) L
theorem eW.sA {a : Nat} (V : Hv) (g : Nat → Int32) : eW a V (sA V a g) := eG.setA V g rfl
theorem mP.of {Z : Hz} {V : Hv} {a : Nat} {L : Nat → Nat} {g : Nat → Int32} (h : mG g L) : mP Z V a L (Z, sA V a g) := ⟨_, rfl, eW.sA V g, by rw [vA_sA_self]; exact h⟩
theorem eW.i {a ci k b : Nat} {V V' : Hv} (h : eW a V V') : vI V' ci k b = vI V ci k b := h.1 ci k b (fun z => z)
section MOD1
variable {Γ : Gm} {Z : Hz} {V : Hv} {a : Nat → Nat} {L : Nat → Nat} {s t c : Nat}
theorem mR.inw {k : Nat} (hR : mR Z a) (hs : s < 240) (hk : k < 16) : vp_in (nI (16 * s + k)) (zn Z (a 1)) := by rw [hR.2.1.2.1]; exact vp_in_nI (by omega) (by decide)
theorem clw {s k : Nat} (hs : s < 240) (hk : k < 16) : (nI (16 * s + k)).toNatClampNeg = 16 * s + k := nI_clamp (by omega)
theorem ixw (s k : Nat) : nI 16 * nI s + nI k = nI (16 * s + k) := by rw [pk_mul, nI_add]
set_option maxRecDepth 100000 in
theorem m_topOf (hR : mR Z a) (hG : mG (vA V (a 1)) L) (hs : s < 240) : zCt Γ mX10_topOf 0 0 0 0 [.ref (a 0), .int (nI s)] (Z, V) (pI (fun r S' => S' = (Z, V) ∧ ∃ t, r = nI t ∧ t ≤ 16 ∧ L s < 268435456 ^ t ∧ (0 < t → 268435456 ^ (t - 1) ≤ L s))) := by
  refine zCt.of [some (.ref (a 0)), some (.int (nI s)), none] pn_X10_topOf rfl (Nat.le_of_ble_eq_true rfl) rfl (fun κ F => ?_)
  obtain ⟨b0, b1, -⟩ := hR.1
  obtain ⟨d1, d2, -⟩ := hR.2.1
  generalize hQ : zQ Γ κ (pI (fun r S' => S' = (Z, V) ∧ ∃ t, r = nI t ∧ t ≤ 16 ∧ L s < 268435456 ^ t ∧ (0 < t → 268435456 ^ (t - 1) ≤ L s))) 0 0 = Q
  have loop : ∀ k, k ≤ 16 → L s < 268435456 ^ k → zX Γ κ (Z, V) 0 0 Q 3 [some (.ref (a 0)), some (.int (nI s)), some (.int (nI k))] [] := by
    intro k
    induction k with
    | zero =>
      intro hk hx
      refine z_iload_n F dX10_topOf_3 rfl ?_
      refine z_if_le (tgt := 29) F dX10_topOf_4 (by decide) (fun c => ?_) (fun c => ?_)
      · subst hQ
        refine z_iload_n F dX10_topOf_29 rfl ?_
        exact z_iret F dX10_topOf_30 rfl ⟨rfl, 0, rfl, hk, hx, fun z => absurd z (by decide)⟩
      · exact absurd (show nI 0 ≤ 0 by decide) c
    | succ k ih =>
      intro hk hx
      have ix : nI 16 * nI s + nI (k + 1) - nI 1 = nI (16 * s + k) := by rw [ixw, pk_sub (by omega)]; rfl
      have rd : vA V (a 1) (nI (16 * s + k)).toNatClampNeg = nI (dg (L s) k) := by rw [clw hs (by omega)]; exact hG.1 s k hs (by omega)
      have hlt := dg_lt (L s) k
      refine z_iload_n F dX10_topOf_3 rfl ?_
      refine z_if_le (tgt := 29) F dX10_topOf_4 (by decide) (fun c => ?_) (fun c => ?_)
      · have := (nI_le0 (by omega)).mp c
        omega
      · refine z_aload_n F dX10_topOf_7 rfl ?_
        refine z_getR F dX10_topOf_8 gr_X10_7 (by assumption) (by assumption) ?_
        refine z_bipush (v := nI 16) F dX10_topOf_11 (by decide) ?_
        refine z_iload_n F dX10_topOf_13 rfl ?_
        refine z_imul F dX10_topOf_14 ?_
        refine z_iload_n F dX10_topOf_15 rfl ?_
        refine z_iadd F dX10_topOf_16 ?_
        refine z_iconst (v := nI 1) F dX10_topOf_17 (by decide) ?_
        refine z_isub F dX10_topOf_18 ?_
        refine z_ti ix ?_
        refine z_iald F dX10_topOf_19 (by assumption) (hR.inw hs (by omega)) ?_
        refine z_ti rd ?_
        refine z_if_ne (tgt := 29) F dX10_topOf_20 (by decide) (fun c2 => ?_) (fun c2 => ?_)
        · have h : ¬ dg (L s) k = 0 := fun z => c2 ((nI_ne0' (by omega)).mpr z)
          have hge : 268435456 ^ k ≤ L s := Nat.le_of_not_lt (fun z => h (dg_hi z (Nat.le_refl k)))
          subst hQ
          refine z_iload_n F dX10_topOf_29 rfl ?_
          exact z_iret F dX10_topOf_30 rfl ⟨rfl, k + 1, rfl, hk, hx, fun _ => hge⟩
        · have h : dg (L s) k = 0 := (nI_ne0' (by omega)).mp c2
          refine z_iinc_2 F dX10_topOf_23 rfl ?_
          refine z_goto (tgt := 3) F dX10_topOf_26 (by decide) ?_
          rw [nI_m1, nI_km1]
          refine ih (by omega) ?_
          have e := dg_mod (L s) k
          rw [Nat.mod_eq_of_lt hx, h, Nat.zero_mul, Nat.add_zero] at e
          rw [e]
          exact Nat.mod_lt _ (dgp k)
  refine z_bipush (v := nI 16) F dX10_topOf_0 (by decide) ?_
  refine z_istore_n_2 F dX10_topOf_2 rfl ?_
  exact loop 16 (Nat.le_refl _) (hG.2 s hs)
set_option maxRecDepth 100000 in
theorem m_wipe (hR : mR Z a) (hG : mG (vA V (a 1)) L) (hs : s < 240) : zCt Γ mX10_wipe 0 0 0 0 [.ref (a 0), .int (nI s)] (Z, V) (pV (mP Z V (a 1) (va_up L s 0))) := by
  refine zCt.of [some (.ref (a 0)), some (.int (nI s)), none] pn_X10_wipe rfl (Nat.le_of_ble_eq_true rfl) rfl (fun κ F => ?_)
  obtain ⟨b0, b1, -⟩ := hR.1
  obtain ⟨d1, d2, -⟩ := hR.2.1
  generalize hQ : zQ Γ κ (pV (mP Z V (a 1) (va_up L s 0))) 0 0 = Q
  have loop : ∀ d k g, k + d = 16 → mQ g L s k 0 → zX Γ κ (Z, sA V (a 1) g) 0 0 Q 2 [some (.ref (a 0)), some (.int (nI s)), some (.int (nI k))] [] := by
    intro d
    induction d with
    | zero =>
      intro k g hk hq
      refine z_iload_n F dX10_wipe_2 rfl ?_
      refine z_bipush (v := nI 16) F dX10_wipe_3 (by decide) ?_
      refine z_icmp_ge (tgt := 26) F dX10_wipe_5 (by decide) (fun c => ?_) (fun c => ?_)
      · subst hQ
        exact z_vret F dX10_wipe_26 rfl (mP.of (hq.done hG.2 (dgp 16) (fun j h1 h2 => absurd h1 (by omega))))
      · exact absurd (nI_le (a := 16) (by omega) (by omega)) c
    | succ d ih =>
      intro k g hk hq
      refine z_iload_n F dX10_wipe_2 rfl ?_
      refine z_bipush (v := nI 16) F dX10_wipe_3 (by decide) ?_
      refine z_icmp_ge (tgt := 26) F dX10_wipe_5 (by decide) (fun c => ?_) (fun c => ?_)
      · exact absurd ((nI_leI (a := 16) (by omega) (by omega)).mp c) (by omega)
      · refine z_aload_n F dX10_wipe_8 rfl ?_
        refine z_getR F dX10_wipe_9 gr_X10_7 (by assumption) (by assumption) ?_
        refine z_bipush (v := nI 16) F dX10_wipe_12 (by decide) ?_
        refine z_iload_n F dX10_wipe_14 rfl ?_
        refine z_imul F dX10_wipe_15 ?_
        refine z_iload_n F dX10_wipe_16 rfl ?_
        refine z_iadd F dX10_wipe_17 ?_
        refine z_ti (ixw s k) ?_
        refine z_iconst (v := nI 0) F dX10_wipe_18 (by decide) ?_
        refine z_iast F dX10_wipe_19 (by assumption) (hR.inw hs (by omega)) ?_
        refine z_V (show _ = sA V (a 1) (upd g (16 * s + k) (nI 0)) by rw [clw hs (by omega), vA_sA_self, sA_sA]) ?_
        refine z_iinc_2 F dX10_wipe_20 rfl ?_
        refine z_goto (tgt := 2) F dX10_wipe_23 (by decide) ?_
        rw [show nI k + Int32.ofInt 1 = nI (k + 1) from nI_1 k]
        exact ih (k + 1) _ (by omega) (hq.step (by omega) (by rw [dg_0]))
  refine z_iconst (v := nI 0) F dX10_wipe_0 (by decide) ?_
  refine z_istore_n_2 F dX10_wipe_1 rfl ?_
  refine z_V (sA_id V (a 1)).symm ?_
  exact loop 16 0 _ rfl (mQ.zero hG)
set_option maxRecDepth 100000 in
theorem m_carryOver (hR : mR Z a) (hG : mG (vA V (a 1)) L) (hs : s < 240) (ht : t < 240) : zCt Γ mX10_carryOver 0 0 0 0 [.ref (a 0), .int (nI s), .int (nI t)] (Z, V) (pV (mP Z V (a 1) (va_up L t (L s)))) := by
  refine zCt.of [some (.ref (a 0)), some (.int (nI s)), some (.int (nI t)), none] pn_X10_carryOver rfl (Nat.le_of_ble_eq_true rfl) rfl (fun κ F => ?_)
  obtain ⟨b0, b1, -⟩ := hR.1
  obtain ⟨d1, d2, -⟩ := hR.2.1
  generalize hQ : zQ Γ κ (pV (mP Z V (a 1) (va_up L t (L s)))) 0 0 = Q
  have loop : ∀ d k g, k + d = 16 → mQ g L t k (L s) → zX Γ κ (Z, sA V (a 1) g) 0 0 Q 2 [some (.ref (a 0)), some (.int (nI s)), some (.int (nI t)), some (.int (nI k))] [] := by
    intro d
    induction d with
    | zero =>
      intro k g hk hq
      refine z_iload_n F dX10_carryOver_2 rfl ?_
      refine z_bipush (v := nI 16) F dX10_carryOver_3 (by decide) ?_
      refine z_icmp_ge (tgt := 36) F dX10_carryOver_5 (by decide) (fun c => ?_) (fun c => ?_)
      · subst hQ
        exact z_vret F dX10_carryOver_36 rfl (mP.of (hq.done hG.2 (hG.2 s hs) (fun j h1 h2 => absurd h1 (by omega))))
      · exact absurd (nI_le (a := 16) (by omega) (by omega)) c
    | succ d ih =>
      intro k g hk hq
      have rd : vA (sA V (a 1) g) (a 1) (nI (16 * s + k)).toNatClampNeg = nI (dg (L s) k) := by rw [vA_sA_self, clw hs (by omega)]; exact hq.1 s k hs (by omega) (Or.inr (Nat.le_refl k))
      refine z_iload_n F dX10_carryOver_2 rfl ?_
      refine z_bipush (v := nI 16) F dX10_carryOver_3 (by decide) ?_
      refine z_icmp_ge (tgt := 36) F dX10_carryOver_5 (by decide) (fun c => ?_) (fun c => ?_)
      · exact absurd ((nI_leI (a := 16) (by omega) (by omega)).mp c) (by omega)
      · refine z_aload_n F dX10_carryOver_8 rfl ?_
        refine z_getR F dX10_carryOver_9 gr_X10_7 (by assumption) (by assumption) ?_
        refine z_bipush (v := nI 16) F dX10_carryOver_12 (by decide) ?_
        refine z_iload_n F dX10_carryOver_14 rfl ?_
        refine z_imul F dX10_carryOver_15 ?_
        refine z_iload_n F dX10_carryOver_16 rfl ?_
        refine z_iadd F dX10_carryOver_17 ?_
        refine z_ti (ixw t k) ?_
        refine z_aload_n F dX10_carryOver_18 rfl ?_
        refine z_getR F dX10_carryOver_19 gr_X10_7 (by assumption) (by assumption) ?_
        refine z_bipush (v := nI 16) F dX10_carryOver_22 (by decide) ?_
        refine z_iload_n F dX10_carryOver_24 rfl ?_
        refine z_imul F dX10_carryOver_25 ?_
        refine z_iload_n F dX10_carryOver_26 rfl ?_
        refine z_iadd F dX10_carryOver_27 ?_
        refine z_ti (ixw s k) ?_
        refine z_iald F dX10_carryOver_28 (by assumption) (hR.inw hs (by omega)) ?_
        refine z_ti rd ?_
        refine z_iast F dX10_carryOver_29 (by assumption) (hR.inw ht (by omega)) ?_
        refine z_V (show _ = sA V (a 1) (upd g (16 * t + k) (nI (dg (L s) k))) by rw [clw ht (by omega), vA_sA_self, sA_sA]) ?_
        refine z_iinc_3 F dX10_carryOver_30 rfl ?_
        refine z_goto (tgt := 2) F dX10_carryOver_33 (by decide) ?_
        rw [show nI k + Int32.ofInt 1 = nI (k + 1) from nI_1 k]
        exact ih (k + 1) _ (by omega) (hq.step (by omega) rfl)
  refine z_iconst (v := nI 0) F dX10_carryOver_0 (by decide) ?_
  refine z_istore_n_3 F dX10_carryOver_1 rfl ?_
  refine z_V (sA_id V (a 1)).symm ?_
  exact loop 16 0 _ rfl (mQ.zero hG)
set_option maxRecDepth 100000 in
theorem m_isOne (hR : mR Z a) (hG : mG (vA V (a 1)) L) (hs : s < 240) : zCt Γ mX10_isOne 1 22 0 0 [.ref (a 0), .int (nI s)] (Z, V) (pZ (q0 Z V (decide (L s = 1)))) := by
  refine zCt.of [some (.ref (a 0)), some (.int (nI s))] pn_X10_isOne rfl (Nat.le_of_ble_eq_true rfl) rfl (fun κ F => ?_)
  obtain ⟨b0, b1, -⟩ := hR.1
  obtain ⟨d1, d2, -⟩ := hR.2.1
  have rd : vA V (a 1) (nI (16 * s)).toNatClampNeg = nI (dg (L s) 0) := by have := hG.1 s 0 hs (by decide); rw [Nat.add_zero] at this; rw [nI_clamp (by omega)]; exact this
  have hin : vp_in (nI (16 * s)) (zn Z (a 1)) := hR.inw (k := 0) hs (by decide)
  have hlt := dg_lt (L s) 0
  refine z_aload_n F dX10_isOne_0 rfl ?_
  refine z_iload_n F dX10_isOne_1 rfl ?_
  refine z_cVi F (m_topOf hR hG hs) dX10_isOne_2 ml_X10_60 ok_X10_topOf b0 (by decide) rfl rfl rfl (Nat.le_of_ble_eq_true rfl) (by decide) (by decide) (fun r S' hr => ?_)
  obtain ⟨rfl, t, rfl, ht, hx, hge⟩ := hr
  refine z_iconst (v := nI 1) F dX10_isOne_5 (by decide) ?_
  refine z_icmp_ne (tgt := 26) F dX10_isOne_6 (by decide) (fun c => ?_) (fun c => ?_)
  · have h : ¬ L s = 1 := fun z => by
      have h1 : ¬ t = 1 := fun y => c (congrArg nI y)
      rw [z] at hx hge
      rcases Nat.eq_zero_or_pos t with y | y
      · rw [y] at hx
        exact absurd hx (by decide)
      · have h2 := hge y
        have h3 : 268435456 ^ 1 ≤ 268435456 ^ (t - 1) := Nat.pow_le_pow_right (by decide) (by omega)
        exact absurd (Nat.le_trans h3 h2) (by decide)
    refine z_iconst (v := nI 0) F dX10_isOne_26 (by decide) ?_
    exact z_zret F false dX10_isOne_27 rfl rfl ⟨(decide_eq_false h).symm, rfl⟩
  · have h1 : t = 1 := (nI_eq (by omega) (by decide)).mp c
    subst h1
    have hd : dg (L s) 0 = L s := by unfold dg; rw [Nat.pow_zero, Nat.div_one, Nat.mod_eq_of_lt (by rw [Nat.pow_one] at hx; exact hx)]
    refine z_aload_n F dX10_isOne_9 rfl ?_
    refine z_getR F dX10_isOne_10 gr_X10_7 (by assumption) (by assumption) ?_
    refine z_bipush (v := nI 16) F dX10_isOne_13 (by decide) ?_
    refine z_iload_n F dX10_isOne_15 rfl ?_
    refine z_imul F dX10_isOne_16 ?_
    refine z_ti (pk_mul _ _) ?_
    refine z_iald F dX10_isOne_17 (by assumption) hin ?_
    refine z_ti rd ?_
    refine z_iconst (v := nI 1) F dX10_isOne_18 (by decide) ?_
    refine z_icmp_ne (tgt := 26) F dX10_isOne_19 (by decide) (fun c2 => ?_) (fun c2 => ?_)
    · have h : ¬ L s = 1 := fun z => c2 (by rw [hd, z])
      refine z_iconst (v := nI 0) F dX10_isOne_26 (by decide) ?_
      exact z_zret F false dX10_isOne_27 rfl rfl ⟨(decide_eq_false h).symm, rfl⟩
    · have h : L s = 1 := by rw [← hd]; exact (nI_eq (by omega) (by decide)).mp c2
      refine z_iconst (v := nI 1) F dX10_isOne_22 (by decide) ?_
      refine z_goto (tgt := 27) F dX10_isOne_23 (by decide) ?_
      exact z_zret F true dX10_isOne_27 rfl rfl ⟨(decide_eq_true h).symm, rfl⟩
theorem cmp_dg {x y k : Nat} (h : x / 268435456 ^ (k + 1) = y / 268435456 ^ (k + 1)) : (dg x k < dg y k → x < y) ∧ (dg x k = dg y k → x / 268435456 ^ k = y / 268435456 ^ k) := by
  have e1 := div_dg x k
  have e2 := div_dg y k
  rw [h] at e1
  refine ⟨fun z => Nat.lt_of_not_le (fun w => ?_), fun z => by rw [e1, e2, z]⟩
  have := Nat.div_le_div_right (c := 268435456 ^ k) w
  omega
set_option maxRecDepth 100000 in
theorem m_orderOf (hR : mR Z a) (hG : mG (vA V (a 1)) L) (hs : s < 240) (ht : t < 240) : zCt Γ mX10_orderOf 0 0 0 0 [.ref (a 0), .int (nI s), .int (nI t)] (Z, V) (pI (q0 Z V (cmpI (L s) (L t)))) := by
  refine zCt.of [some (.ref (a 0)), some (.int (nI s)), some (.int (nI t)), none, none, none] pn_X10_orderOf rfl (Nat.le_of_ble_eq_true rfl) rfl (fun κ F => ?_)
  obtain ⟨b0, b1, -⟩ := hR.1
  obtain ⟨d1, d2, -⟩ := hR.2.1
  generalize hQ : zQ Γ κ (pI (q0 Z V (cmpI (L s) (L t)))) 0 0 = Q
  have rs : ∀ k, k < 16 → vA V (a 1) (nI (16 * s + k)).toNatClampNeg = nI (dg (L s) k) := fun k hk => by rw [clw hs hk]; exact hG.1 s k hs hk
  have rt : ∀ k, k < 16 → vA V (a 1) (nI (16 * t + k)).toNatClampNeg = nI (dg (L t) k) := fun k hk => by rw [clw ht hk]; exact hG.1 t k ht hk
  have fin : ∀ k, k < 16 → L s / 268435456 ^ (k + 1) = L t / 268435456 ^ (k + 1) → (k = 0 ∨ dg (L s) k ≠ dg (L t) k) → zX Γ κ (Z, V) 0 0 Q 38 [some (.ref (a 0)), some (.int (nI s)), some (.int (nI t)), some (.int (nI k)), none, none] [] := by
    intro k hk he hstop
    have l1 := dg_lt (L s) k
    have l2 := dg_lt (L t) k
    refine z_aload_n F dX10_orderOf_38 rfl ?_
    refine z_getR F dX10_orderOf_39 gr_X10_7 (by assumption) (by assumption) ?_
    refine z_bipush (v := nI 16) F dX10_orderOf_42 (by decide) ?_
    refine z_iload_n F dX10_orderOf_44 rfl ?_
    refine z_imul F dX10_orderOf_45 ?_
    refine z_iload_n F dX10_orderOf_46 rfl ?_
    refine z_iadd F dX10_orderOf_47 ?_
    refine z_ti (ixw s k) ?_
    refine z_iald F dX10_orderOf_48 (by assumption) (hR.inw hs hk) ?_
    refine z_ti (rs k hk) ?_
    refine z_istore_4 F dX10_orderOf_49 rfl ?_
    refine z_aload_n F dX10_orderOf_51 rfl ?_
    refine z_getR F dX10_orderOf_52 gr_X10_7 (by assumption) (by assumption) ?_
    refine z_bipush (v := nI 16) F dX10_orderOf_55 (by decide) ?_
    refine z_iload_n F dX10_orderOf_57 rfl ?_
    refine z_imul F dX10_orderOf_58 ?_
    refine z_iload_n F dX10_orderOf_59 rfl ?_
    refine z_iadd F dX10_orderOf_60 ?_
    refine z_ti (ixw t k) ?_
    refine z_iald F dX10_orderOf_61 (by assumption) (hR.inw ht hk) ?_
    refine z_ti (rt k hk) ?_
    refine z_istore_5 F dX10_orderOf_62 rfl ?_
    refine z_iload F dX10_orderOf_64 rfl ?_
    refine z_iload F dX10_orderOf_66 rfl ?_
    refine z_icmp_ge (tgt := 75) F dX10_orderOf_68 (by decide) (fun c => ?_) (fun c => ?_)
    · have h1 := (nI_leI (by omega) (by omega)).mp c
      refine z_iload F dX10_orderOf_75 rfl ?_
      refine z_iload F dX10_orderOf_77 rfl ?_
      refine z_icmp_le (tgt := 86) F dX10_orderOf_79 (by decide) (fun c2 => ?_) (fun c2 => ?_)
      · have h2 := (nI_leI (by omega) (by omega)).mp c2
        have hE : dg (L s) k = dg (L t) k := by omega
        have hk0 : k = 0 := by rcases hstop with z | z; exact z; exact absurd hE z
        subst hk0
        have hxy := (cmp_dg he).2 hE
        rw [Nat.pow_zero, Nat.div_one, Nat.div_one] at hxy
        subst hQ
        refine z_iconst (v := nI 0) F dX10_orderOf_86 (by decide) ?_
        exact z_iret F dX10_orderOf_87 rfl ⟨((cmpI_eq _ _).mpr hxy).symm, rfl⟩
      · have h2 : dg (L t) k < dg (L s) k := Nat.lt_of_not_le (fun z => c2 ((nI_leI (by omega) (by omega)).mpr z))
        have hlt := (cmp_dg he.symm).1 h2
        have hc : nI 1 = cmpI (L s) (L t) := by unfold cmpI; rw [if_neg (by omega), if_neg (by omega)]; rfl
        subst hQ
        refine z_iconst (v := nI 1) F dX10_orderOf_82 (by decide) ?_
        refine z_goto (tgt := 87) F dX10_orderOf_83 (by decide) ?_
        exact z_iret F dX10_orderOf_87 rfl ⟨hc, rfl⟩
    · have h1 : dg (L s) k < dg (L t) k := Nat.lt_of_not_le (fun z => c ((nI_leI (by omega) (by omega)).mpr z))
      have hlt := (cmp_dg he).1 h1
      have hc : (-1 : Int32) = cmpI (L s) (L t) := by unfold cmpI; rw [if_pos hlt]
      subst hQ
      refine z_iconst (v := (-1)) F dX10_orderOf_71 (by decide) ?_
      refine z_goto (tgt := 87) F dX10_orderOf_72 (by decide) ?_
      exact z_iret F dX10_orderOf_87 rfl ⟨hc, rfl⟩
  have loop : ∀ k, k < 16 → L s / 268435456 ^ (k + 1) = L t / 268435456 ^ (k + 1) → zX Γ κ (Z, V) 0 0 Q 3 [some (.ref (a 0)), some (.int (nI s)), some (.int (nI t)), some (.int (nI k)), none, none] [] := by
    intro k
    induction k with
    | zero =>
      intro hk he
      refine z_iload_n F dX10_orderOf_3 rfl ?_
      refine z_if_le (tgt := 38) F dX10_orderOf_4 (by decide) (fun c => ?_) (fun c => ?_)
      · exact fin 0 hk he (Or.inl rfl)
      · exact absurd (show nI 0 ≤ 0 by decide) c
    | succ k ih =>
      intro hk he
      have l1 := dg_lt (L s) (k + 1)
      have l2 := dg_lt (L t) (k + 1)
      refine z_iload_n F dX10_orderOf_3 rfl ?_
      refine z_if_le (tgt := 38) F dX10_orderOf_4 (by decide) (fun c => ?_) (fun c => ?_)
      · have := (nI_le0 (by omega)).mp c
        omega
      · refine z_aload_n F dX10_orderOf_7 rfl ?_
        refine z_getR F dX10_orderOf_8 gr_X10_7 (by assumption) (by assumption) ?_
        refine z_bipush (v := nI 16) F dX10_orderOf_11 (by decide) ?_
        refine z_iload_n F dX10_orderOf_13 rfl ?_
        refine z_imul F dX10_orderOf_14 ?_
        refine z_iload_n F dX10_orderOf_15 rfl ?_
        refine z_iadd F dX10_orderOf_16 ?_
        refine z_ti (ixw s (k + 1)) ?_
        refine z_iald F dX10_orderOf_17 (by assumption) (hR.inw hs hk) ?_
        refine z_ti (rs (k + 1) hk) ?_
        refine z_aload_n F dX10_orderOf_18 rfl ?_
        refine z_getR F dX10_orderOf_19 gr_X10_7 (by assumption) (by assumption) ?_
        refine z_bipush (v := nI 16) F dX10_orderOf_22 (by decide) ?_
        refine z_iload_n F dX10_orderOf_24 rfl ?_
        refine z_imul F dX10_orderOf_25 ?_
        refine z_iload_n F dX10_orderOf_26 rfl ?_
        refine z_iadd F dX10_orderOf_27 ?_
        refine z_ti (ixw t (k + 1)) ?_
        refine z_iald F dX10_orderOf_28 (by assumption) (hR.inw ht hk) ?_
        refine z_ti (rt (k + 1) hk) ?_
        refine z_icmp_ne (tgt := 38) F dX10_orderOf_29 (by decide) (fun c2 => ?_) (fun c2 => ?_)
        · exact fin (k + 1) hk he (Or.inr (fun z => c2 (by rw [z])))
        · have hE := (nI_eq (by omega) (by omega)).mp c2
          refine z_iinc_3 F dX10_orderOf_32 rfl ?_
          refine z_goto (tgt := 3) F dX10_orderOf_35 (by decide) ?_
          rw [nI_m1, nI_km1]
          exact ih (by omega) ((cmp_dg he).2 hE)
  refine z_bipush (v := nI 15) F dX10_orderOf_0 (by decide) ?_
  refine z_istore_n_3 F dX10_orderOf_2 rfl ?_
  refine loop 15 (by decide) ?_
  rw [Nat.div_eq_of_lt (hG.2 s hs), Nat.div_eq_of_lt (hG.2 t ht)]
end MOD1
