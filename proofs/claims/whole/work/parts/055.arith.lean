/-! ===== Arithmetic on Fractions ===== -/
def fmul (a b : Fr) (d : Bool) : Fr := norm (a.1 != b.1) (a.2.1 * (if d = true then b.2.2 else b.2.1)) (a.2.2 * (if d = true then b.2.1 else b.2.2))
def fadd (a b : Fr) (less : Bool) : Fr :=
  if a.1 = (b.1 != less) then norm a.1 (a.2.1 * b.2.2 + b.2.1 * a.2.2) (a.2.2 * b.2.2)
  else if b.2.1 * a.2.2 ≤ a.2.1 * b.2.2 then norm a.1 (a.2.1 * b.2.2 - b.2.1 * a.2.2) (a.2.2 * b.2.2)
  else norm (b.1 != less) (b.2.1 * a.2.2 - a.2.1 * b.2.2) (a.2.2 * b.2.2)
def wideB (x : Fr) : Bool := decide (x.2.1 < 4294967296 ^ 6) && decide (x.2.2 < 4294967296 ^ 6)
theorem wideB_iff {x : Fr} : wideB x = true ↔ wide x := by simp [wideB, wide]
theorem div_lt6 {a : Nat} (c : Nat) (h : a < 4294967296 ^ 6) : a / c < 4294967296 ^ 6 := Nat.lt_of_le_of_lt (Nat.div_le_self _ _) h
theorem mul_lt12 {a b : Nat} (ha : a < 4294967296 ^ 6) (hb : b < 4294967296 ^ 6) : a * b < 4294967296 ^ 12 := by
  rcases Nat.eq_zero_or_pos b with h | h
  · subst h; rw [Nat.mul_zero]; exact BBpos 12
  · calc a * b < 4294967296 ^ 6 * b := Nat.mul_lt_mul_of_pos_right ha h
      _ ≤ 4294967296 ^ 6 * 4294967296 ^ 6 := Nat.mul_le_mul_left _ (Nat.le_of_lt hb)
      _ = 4294967296 ^ 12 := by rw [← Nat.pow_add]
theorem lt14 {a n : Nat} (h : a < 4294967296 ^ n) (hn : n ≤ 14) : a < 4294967296 ^ 14 := Nat.lt_of_lt_of_le h (Nat.pow_le_pow_right (by decide) hn)
theorem lt12 {a : Nat} (h : a < 4294967296 ^ 6) : a < 4294967296 ^ 12 := Nat.lt_of_lt_of_le h (Nat.pow_le_pow_right (by decide) (by decide))
theorem nl66 {a b : Nat} (ha : a < 4294967296 ^ 6) (hb : b < 4294967296 ^ 6) : nl a + nl b ≤ 16 := by
  have := nl_le.mpr ha
  have := nl_le.mpr hb
  omega
theorem zb_cmp (a b : Bool) : zb a = zb b ↔ a = b := by cases a <;> cases b <;> decide
/-- what joinUppers leaves -/
def jP (Z : Hz) (V : Hv) (val w : Nat → Nat) (x : Nat) : Hs → Prop := fun S' => ∃ (V' : Hv) (val' : Nat → Nat), S' = (Z, V') ∧ CV Z V' val' ∧ eN Z V V' ∧ val' (w 6) = x ∧ eV (fun q => q = w 6) val val'
section ARM
variable {Γ : Gm} {Z : Hz} {V : Hv} {val : Nat → Nat} {bel : Nat → Bool} {uo vo w : Nat → Nat} {A a b q : Nat}
set_option maxRecDepth 100000 in
theorem c_joinUppers {s t : Bool} (hJ : wInj Z) (hA : aR Z A w) (hC : CV Z V val) (h8 : val (w 8) < 4294967296 ^ 12) (h9 : val (w 9) < 4294967296 ^ 12) : zCt Γ mX0_joinUppers 2 59 0 0 [.ref A, .int (zb s), .int (zb t)] (Z, V) (pZ (fun r S' => r = (if s = t then s else if val (w 9) ≤ val (w 8) then s else t) ∧ jP Z V val w (if s = t then val (w 8) + val (w 9) else if val (w 9) ≤ val (w 8) then val (w 8) - val (w 9) else val (w 9) - val (w 8)) S')) := by
  refine zCt.of [some (.ref A), some (.int (zb s)), some (.int (zb t))] pn_X0_joinUppers rfl (Nat.le_of_ble_eq_true rfl) rfl (fun κ F => ?_)
  obtain ⟨hA0, hAf, hAi⟩ := id hA
  obtain ⟨f6, i6⟩ := hAf 6 (by decide)
  obtain ⟨f8, i8⟩ := hAf 8 (by decide)
  obtain ⟨f9, i9⟩ := hAf 9 (by decide)
  have k6 : zIn Z (w 6) 7 := i6.choose_spec.1
  have k8 : zIn Z (w 8) 7 := i8.choose_spec.1
  have n86 : w 8 ≠ w 6 := hA.ne (by decide) (by decide) (by decide)
  have n96 : w 9 ≠ w 6 := hA.ne (by decide) (by decide) (by decide)
  refine z_iload_n F dX0_joinUppers_0 rfl ?_
  refine z_iload_n F dX0_joinUppers_1 rfl ?_
  refine z_icmp_ne (tgt := 29) F dX0_joinUppers_2 (by decide) (fun c => ?_) (fun c => ?_)
  · have hst : ¬ s = t := fun z => c ((zb_cmp s t).mpr z)
    simp only [if_neg hst]
    refine z_aload_n F dX0_joinUppers_29 rfl ?_
    refine z_getR F dX0_joinUppers_30 gr_X0_37 (by assumption) (by assumption) ?_
    refine z_aload_n F dX0_joinUppers_33 rfl ?_
    refine z_getR F dX0_joinUppers_34 gr_X0_40 (by assumption) (by assumption) ?_
    refine z_cVi F (C_against hC i8 i9) dX0_joinUppers_37 ml_X0_57 ok_X8_against k8 (by decide) rfl rfl rfl (Nat.le_of_ble_eq_true rfl) (by decide) (by decide) (fun r S' hr => ?_)
    obtain ⟨rfl, rfl⟩ := hr
    refine z_if_lt (tgt := 67) F dX0_joinUppers_40 (by decide) (fun c2 => ?_) (fun c2 => ?_)
    · have hlt := (cmpI_lt _ _).mp c2
      simp only [if_neg (Nat.not_le.mpr hlt)]
      refine z_aload_n F dX0_joinUppers_67 rfl ?_
      refine z_getR F dX0_joinUppers_68 gr_X0_31 (by assumption) (by assumption) ?_
      refine z_aload_n F dX0_joinUppers_71 rfl ?_
      refine z_getR F dX0_joinUppers_72 gr_X0_40 (by assumption) (by assumption) ?_
      refine z_cVv F (C_copy hC hJ i6 i9) dX0_joinUppers_75 ml_X0_82 ok_X8_copy k6 (by decide) rfl rfl rfl (Nat.le_of_ble_eq_true rfl) (by decide) (by decide) (fun S' hS' => ?_)
      obtain ⟨V1, rfl, hC1, hN1⟩ := hS'
      refine z_aload_n F dX0_joinUppers_78 rfl ?_
      refine z_getR F dX0_joinUppers_79 gr_X0_31 (by assumption) (by assumption) ?_
      refine z_aload_n F dX0_joinUppers_82 rfl ?_
      refine z_getR F dX0_joinUppers_83 gr_X0_37 (by assumption) (by assumption) ?_
      refine z_cVv F (C_decrease hC1 hJ i6 i8 n86 (by rw [up_self, up_ne _ _ n86]; omega)) dX0_joinUppers_86 ml_X0_165 ok_X8_decrease k6 (by decide) rfl rfl rfl (Nat.le_of_ble_eq_true rfl) (by decide) (by decide) (fun S' hS' => ?_)
      obtain ⟨V2, rfl, hC2, hN2⟩ := hS'
      refine z_iload_n F dX0_joinUppers_89 rfl ?_
      exact z_zret F t dX0_joinUppers_90 rfl rfl ⟨rfl, V2, _, rfl, hC2, hN1.trans hN2, by rw [up_self, up_self, up_ne _ _ n86], eV.up (P := fun q => q = w 6) (eV.up (P := fun q => q = w 6) (eV.refl _ _) rfl) rfl⟩
    · have hle : val (w 9) ≤ val (w 8) := by
        have := mt (cmpI_lt _ _).mpr c2
        omega
      simp only [if_pos hle]
      refine z_aload_n F dX0_joinUppers_43 rfl ?_
      refine z_getR F dX0_joinUppers_44 gr_X0_31 (by assumption) (by assumption) ?_
      refine z_aload_n F dX0_joinUppers_47 rfl ?_
      refine z_getR F dX0_joinUppers_48 gr_X0_37 (by assumption) (by assumption) ?_
      refine z_cVv F (C_copy hC hJ i6 i8) dX0_joinUppers_51 ml_X0_82 ok_X8_copy k6 (by decide) rfl rfl rfl (Nat.le_of_ble_eq_true rfl) (by decide) (by decide) (fun S' hS' => ?_)
      obtain ⟨V1, rfl, hC1, hN1⟩ := hS'
      refine z_aload_n F dX0_joinUppers_54 rfl ?_
      refine z_getR F dX0_joinUppers_55 gr_X0_31 (by assumption) (by assumption) ?_
      refine z_aload_n F dX0_joinUppers_58 rfl ?_
      refine z_getR F dX0_joinUppers_59 gr_X0_40 (by assumption) (by assumption) ?_
      refine z_cVv F (C_decrease hC1 hJ i6 i9 n96 (by rw [up_self, up_ne _ _ n96]; omega)) dX0_joinUppers_62 ml_X0_165 ok_X8_decrease k6 (by decide) rfl rfl rfl (Nat.le_of_ble_eq_true rfl) (by decide) (by decide) (fun S' hS' => ?_)
      obtain ⟨V2, rfl, hC2, hN2⟩ := hS'
      refine z_iload_n F dX0_joinUppers_65 rfl ?_
      exact z_zret F s dX0_joinUppers_66 rfl rfl ⟨rfl, V2, _, rfl, hC2, hN1.trans hN2, by rw [up_self, up_self, up_ne _ _ n96], eV.up (P := fun q => q = w 6) (eV.up (P := fun q => q = w 6) (eV.refl _ _) rfl) rfl⟩
  · have hst : s = t := (zb_cmp s t).mp c
    simp only [if_pos hst]
    refine z_aload_n F dX0_joinUppers_5 rfl ?_
    refine z_getR F dX0_joinUppers_6 gr_X0_31 (by assumption) (by assumption) ?_
    refine z_aload_n F dX0_joinUppers_9 rfl ?_
    refine z_getR F dX0_joinUppers_10 gr_X0_37 (by assumption) (by assumption) ?_
    refine z_cVv F (C_copy hC hJ i6 i8) dX0_joinUppers_13 ml_X0_82 ok_X8_copy k6 (by decide) rfl rfl rfl (Nat.le_of_ble_eq_true rfl) (by decide) (by decide) (fun S' hS' => ?_)
    obtain ⟨V1, rfl, hC1, hN1⟩ := hS'
    have hsum : val (w 8) + val (w 9) < 4294967296 ^ 16 := by
      have e : (4294967296 : Nat) ^ 16 = 4294967296 ^ 12 * 4294967296 ^ 4 := by rw [← Nat.pow_add]
      have e2 : 4294967296 ^ 12 * 2 ≤ 4294967296 ^ 12 * 4294967296 ^ 4 := Nat.mul_le_mul_left _ (by decide)
      omega
    refine z_aload_n F dX0_joinUppers_16 rfl ?_
    refine z_getR F dX0_joinUppers_17 gr_X0_31 (by assumption) (by assumption) ?_
    refine z_aload_n F dX0_joinUppers_20 rfl ?_
    refine z_getR F dX0_joinUppers_21 gr_X0_40 (by assumption) (by assumption) ?_
    refine z_cVv F (C_increase hC1 hJ i6 i9 n96 (by rw [up_self, up_ne _ _ n96]; exact hsum)) dX0_joinUppers_24 ml_X0_162 ok_X8_increase k6 (by decide) rfl rfl rfl (Nat.le_of_ble_eq_true rfl) (by decide) (by decide) (fun S' hS' => ?_)
    obtain ⟨V2, rfl, hC2, hN2⟩ := hS'
    refine z_iload_n F dX0_joinUppers_27 rfl ?_
    exact z_zret F s dX0_joinUppers_28 rfl rfl ⟨rfl, V2, _, rfl, hC2, hN1.trans hN2, by rw [up_self, up_self, up_ne _ _ n96], eV.up (P := fun q => q = w 6) (eV.up (P := fun q => q = w 6) (eV.refl _ _) rfl) rfl⟩
/-- nothing set: the Fraction q stays -/
theorem tP.same {V' : Hv} {val' : Nat → Nat} (hC : CF Z V val bel) (hC' : CV Z V' val') (hN : eN Z V V') (hE : eV (aW w) val val') (hS : fS Z uo vo w) (hq : zIn Z q 3) : tP Z V val bel uo vo w q (fr val bel uo vo q) (Z, V') := by
  obtain ⟨-, hk⟩ := hS.1 q hq
  refine ⟨V', val', bel, rfl, hC.w hC' hN, hN.F, ?_, hE.mono (fun o h => Or.inr (Or.inr h)), fun _ _ => rfl⟩
  simp only [fr]
  rw [hE (uo q) (fun ⟨k, hk9, e⟩ => (hk k hk9).1 e), hE (vo q) (fun ⟨k, hk9, e⟩ => (hk k hk9).2 e)]
set_option maxRecDepth 100000 in
theorem c_setWide {s : Bool} (hJ : wInj Z) (hA : aR Z A w) (hC : CF Z V val bel) (hS : fS Z uo vo w) (hq : zIn Z q 3) (ha : iW Z a) (hb : iW Z b) (hbu : b ≠ uo q) : zCt Γ mX0_setWide 3 82 0 0 [.ref A, .int (zb s), .ref a, .ref b, .ref q] (Z, V) (pZ (fun r S' => r = wideB (s && decide (val a ≠ 0), val a, val b) ∧ tP Z V val bel uo vo w q (if wideB (s && decide (val a ≠ 0), val a, val b) = true then (s && decide (val a ≠ 0), val a, val b) else fr val bel uo vo q) S')) := by
  refine zCt.of [some (.ref A), some (.int (zb s)), some (.ref a), some (.ref b), some (.ref q)] pn_X0_setWide rfl (Nat.le_of_ble_eq_true rfl) rfl (fun κ F => ?_)
  have ka : zIn Z a 7 := ha.choose_spec.1
  have kb : zIn Z b 7 := hb.choose_spec.1
  refine z_aload_n F dX0_setWide_0 rfl ?_
  refine z_cVz F (C_isWide hC.1 ha) dX0_setWide_1 ml_X0_168 ok_X8_isWide ka (by decide) rfl rfl rfl (Nat.le_of_ble_eq_true rfl) (by decide) (by decide) (fun r S' hr => ?_)
  obtain ⟨rfl, rfl⟩ := hr
  refine z_if_eq (tgt := 14) F dX0_setWide_4 (by decide) (fun c => ?_) (fun c => ?_)
  · have h := (zb_eq0 _).mp c
    have hw : wideB (s && decide (val a ≠ 0), val a, val b) = false := by
      show (decide (val a < _) && _) = false
      rw [h]; rfl
    simp only [hw, Bool.false_eq_true, if_false]
    refine z_iconst (v := nI 0) F dX0_setWide_14 (by decide) ?_
    exact z_zret F false dX0_setWide_15 rfl rfl ⟨rfl, tP.same hC hC.1 (eN.refl _ _) (eV.refl _ _) hS hq⟩
  · have h1 : decide (val a < 4294967296 ^ 6) = true := by
      cases h : decide (val a < 4294967296 ^ 6) with
      | true => rfl
      | false => rw [h] at c; exact absurd rfl c
    refine z_aload_n F dX0_setWide_7 rfl ?_
    refine z_cVz F (C_isWide hC.1 hb) dX0_setWide_8 ml_X0_168 ok_X8_isWide kb (by decide) rfl rfl rfl (Nat.le_of_ble_eq_true rfl) (by decide) (by decide) (fun r S' hr => ?_)
    obtain ⟨rfl, rfl⟩ := hr
    refine z_if_ne (tgt := 16) F dX0_setWide_11 (by decide) (fun c2 => ?_) (fun c2 => ?_)
    · have h2 : decide (val b < 4294967296 ^ 6) = true := by
        cases h : decide (val b < 4294967296 ^ 6) with
        | true => rfl
        | false => rw [h] at c2; exact absurd rfl c2
      have hw : wideB (s && decide (val a ≠ 0), val a, val b) = true := by
        show (decide (val a < _) && decide (val b < _)) = true
        rw [h1, h2]; rfl
      simp only [hw, if_true]
      refine z_aload F dX0_setWide_16 rfl ?_
      refine z_iload_n F dX0_setWide_18 rfl ?_
      refine z_aload_n F dX0_setWide_19 rfl ?_
      refine z_aload_n F dX0_setWide_20 rfl ?_
      refine z_cVv F (c_fSet hC hJ hS hq ha hb hbu) dX0_setWide_21 ml_X0_171 ok_X3_set hq (by decide) rfl rfl rfl (Nat.le_of_ble_eq_true rfl) (by decide) (by decide) (fun S' hS' => ?_)
      refine z_iconst (v := nI 1) F dX0_setWide_24 (by decide) ?_
      exact z_zret F true dX0_setWide_25 rfl rfl ⟨rfl, hS'⟩
    · have h2 := (zb_eq0 _).mp c2
      have hw : wideB (s && decide (val a ≠ 0), val a, val b) = false := by
        show (decide (val a < _) && decide (val b < _)) = false
        rw [h1, h2]; rfl
      simp only [hw, Bool.false_eq_true, if_false]
      refine z_iconst (v := nI 0) F dX0_setWide_14 (by decide) ?_
      exact z_zret F false dX0_setWide_15 rfl rfl ⟨rfl, tP.same hC hC.1 (eN.refl _ _) (eV.refl _ _) hS hq⟩
/-- the tail of an operation: behind scratch that changed -/
theorem tP.after {V1 : Hv} {val1 : Nat → Nat} {x y : Fr} {S' : Hs} (hN : eN Z V V1) (hE : eV (aW w) val val1) (h : tP Z V1 val1 bel uo vo w q x S') (hxy : x = y) : tP Z V val bel uo vo w q y S' := by
  obtain ⟨V', val', bel', e, h1, h2, h3, h4, h5⟩ := h
  exact ⟨V', val', bel', e, h1, hN.F.trans h2, h3.trans hxy, (hE.mono (fun o h => Or.inr (Or.inr h))).trans h4, h5⟩
theorem fS.out (hS : fS Z uo vo w) (hq : zIn Z q 3) : ¬ aW w (uo q) ∧ ¬ aW w (vo q) := by
  obtain ⟨-, hk⟩ := hS.1 q hq
  exact ⟨fun ⟨k, hk9, e⟩ => (hk k hk9).1 e, fun ⟨k, hk9, e⟩ => (hk k hk9).2 e⟩
set_option maxRecDepth 100000 in
set_option maxHeartbeats 1000000 in
/-- multiply(a, b, by, to) -/
theorem c_multiply {d : Bool} (hJ : wInj Z) (hA : aR Z A w) (hC : CF Z V val bel) (hS : fS Z uo vo w) (ha : zIn Z a 3) (hb : zIn Z b 3) (hq : zIn Z q 3) (oka : fok (fr val bel uo vo a)) (okb : fok (fr val bel uo vo b)) (hd : d = true → val (uo b) ≠ 0) : zCt Γ mX0_multiply 4 115 0 0 [.ref A, .ref a, .ref b, .int (zb d), .ref q] (Z, V) (pZ (fun r S' => r = wideB (fmul (fr val bel uo vo a) (fr val bel uo vo b) d) ∧ tP Z V val bel uo vo w q (if wideB (fmul (fr val bel uo vo a) (fr val bel uo vo b) d) = true then fmul (fr val bel uo vo a) (fr val bel uo vo b) d else fr val bel uo vo q) S')) := by
  refine zCt.of [some (.ref A), some (.ref a), some (.ref b), some (.int (zb d)), some (.ref q), none, none] pn_X0_multiply rfl (Nat.le_of_ble_eq_true rfl) rfl (fun κ F => ?_)
  obtain ⟨hA0, hAf, hAi⟩ := id hA
  obtain ⟨-, pa0, pa1, iua, iva⟩ := (hS.1 a ha).1
  obtain ⟨-, pb0, pb1, iub, ivb⟩ := (hS.1 b hb).1
  obtain ⟨f4, i4⟩ := hAf 4 (by decide)
  obtain ⟨f6, i6⟩ := hAf 6 (by decide)
  obtain ⟨f7, i7⟩ := hAf 7 (by decide)
  obtain ⟨f8, i8⟩ := hAf 8 (by decide)
  obtain ⟨f9, i9⟩ := hAf 9 (by decide)
  obtain ⟨f10, i10⟩ := hAf 10 (by decide)
  obtain ⟨f11, i11⟩ := hAf 11 (by decide)
  have k6 : zIn Z (w 6) 7 := i6.choose_spec.1
  have k7 : zIn Z (w 7) 7 := i7.choose_spec.1
  obtain ⟨⟨va0, gab, sab⟩, wua, wva⟩ := oka
  obtain ⟨⟨vb0, gbb, sbb⟩, wub, wvb⟩ := okb
  simp only at va0 gab sab wua wva vb0 gbb sbb wub wvb
  have oa := hS.out ha
  have ob := hS.out hb
  have sc : ∀ k, k < 12 → aW w (w k) := fun k hk => ⟨k, hk, rfl⟩
  have nw : ∀ {i j : Nat}, i < 12 → j < 12 → i ≠ j → w i ≠ w j := fun hi hj hij => hA.ne hi hj hij
  generalize hQ : zQ Γ κ (pZ (fun r S' => r = wideB (fmul (fr val bel uo vo a) (fr val bel uo vo b) d) ∧ tP Z V val bel uo vo w q (if wideB (fmul (fr val bel uo vo a) (fr val bel uo vo b) d) = true then fmul (fr val bel uo vo a) (fr val bel uo vo b) d else fr val bel uo vo q) S')) 0 0 = Q
  -- from 34 on: the two parts of b by their places
  have main : ∀ (bu bl' : Nat), iW Z bu → iW Z bl' → ¬ aW w bu → ¬ aW w bl' → val bu < 4294967296 ^ 6 → val bl' < 4294967296 ^ 6 → 0 < val bl' → Nat.gcd (val bu) (val bl') = 1 → fmul (fr val bel uo vo a) (fr val bel uo vo b) d = norm (bel a != bel b) (val (uo a) * val bu) (val (vo a) * val bl') → zX Γ κ (Z, V) 0 0 Q 34 [some (.ref A), some (.ref a), some (.ref b), some (.int (zb d)), some (.ref q), some (.ref bu), some (.ref bl')] [] := by
    intro bu bl' ibu ibl obu obl wbu wbl bl0 gbl hfm
    have nbl : ∀ k, k < 12 → bl' ≠ w k := fun k hk e => obl ⟨k, hk, e⟩
    have nva : ∀ k, k < 12 → vo a ≠ w k := fun k hk e => oa.2 ⟨k, hk, e⟩
    rw [mul_parts _ va0 bl0 gab gbl] at hfm
    rw [hfm] at hQ
    refine z_aload_n F dX0_multiply_34 rfl ?_
    refine z_aload_n F dX0_multiply_35 rfl ?_
    refine z_getR F dX0_multiply_36 gr_X0_136 (by assumption) (by assumption) ?_
    refine z_aload F dX0_multiply_39 rfl ?_
    refine z_cVv F (c_findCommon hJ hA hC.1 iua ibl (nbl 2 (by decide)) (lt14 wua (by decide)) (lt14 wbl (by decide))) dX0_multiply_41 ml_X0_128 ok_X0_findCommon hA0 (by decide) rfl rfl rfl (Nat.le_of_ble_eq_true rfl) (by decide) (by decide) (fun S' hS' => ?_)
    obtain ⟨V1, v1, rfl, hC1, hN1, g1, hE1⟩ := hS'
    have E1 : eV (aW w) val v1 := hE1.mono (fun o h => by
      rcases h with h | h | h | h | h <;> (rw [h]; exact sc _ (by decide)))
    refine z_aload_n F dX0_multiply_44 rfl ?_
    refine z_aload_n F dX0_multiply_45 rfl ?_
    refine z_getR F dX0_multiply_46 gr_X0_136 (by assumption) (by assumption) ?_
    refine z_aload_n F dX0_multiply_49 rfl ?_
    refine z_getR F dX0_multiply_50 gr_X0_37 (by assumption) (by assumption) ?_
    refine z_cVv F (c_cut hJ hA hC1 iua i8 (nw (by decide) (by decide) (by decide)) (nw (by decide) (by decide) (by decide)) (nw (by decide) (by decide) (by decide)) (by rw [E1 _ oa.1]; exact lt14 wua (by decide))) dX0_multiply_53 ml_X0_141 ok_X0_cut hA0 (by decide) rfl rfl rfl (Nat.le_of_ble_eq_true rfl) (by decide) (by decide) (fun S' hS' => ?_)
    obtain ⟨V2, v2, rfl, hC2, hN2, g2, hE2⟩ := hS'
    rw [E1 _ oa.1, g1] at g2
    have c2 : v2 (w 4) = v1 (w 4) := hE2 _ (fun h => by
      rcases h with h | h | h <;> exact nw (by decide) (by decide) (by decide) h)
    have E2 : eV (aW w) val v2 := E1.trans (hE2.mono (fun o h => by
      rcases h with h | h | h <;> (rw [h]; exact sc _ (by decide))))
    refine z_aload_n F dX0_multiply_56 rfl ?_
    refine z_aload F dX0_multiply_57 rfl ?_
    refine z_aload_n F dX0_multiply_59 rfl ?_
    refine z_getR F dX0_multiply_60 gr_X0_46 (by assumption) (by assumption) ?_
    refine z_cVv F (c_cut hJ hA hC2 ibl i11 (nw (by decide) (by decide) (by decide)) (nw (by decide) (by decide) (by decide)) (nw (by decide) (by decide) (by decide)) (by rw [E2 _ obl]; exact lt14 wbl (by decide))) dX0_multiply_63 ml_X0_141 ok_X0_cut hA0 (by decide) rfl rfl rfl (Nat.le_of_ble_eq_true rfl) (by decide) (by decide) (fun S' hS' => ?_)
    obtain ⟨V3, v3, rfl, hC3, hN3, g3, hE3⟩ := hS'
    rw [E2 _ obl, c2, g1] at g3
    have k38 : v3 (w 8) = v2 (w 8) := hE3 _ (fun h => by
      rcases h with h | h | h <;> exact nw (by decide) (by decide) (by decide) h)
    have E3 : eV (aW w) val v3 := E2.trans (hE3.mono (fun o h => by
      rcases h with h | h | h <;> (rw [h]; exact sc _ (by decide))))
    refine z_aload_n F dX0_multiply_66 rfl ?_
    refine z_aload F dX0_multiply_67 rfl ?_
    refine z_aload_n F dX0_multiply_69 rfl ?_
    refine z_getR F dX0_multiply_70 gr_X0_144 (by assumption) (by assumption) ?_
    refine z_cVv F (c_findCommon hJ hA hC3 ibu iva (nva 2 (by decide)) (by rw [E3 _ obu]; exact lt14 wbu (by decide)) (by rw [E3 _ oa.2]; exact lt14 wva (by decide))) dX0_multiply_73 ml_X0_128 ok_X0_findCommon hA0 (by decide) rfl rfl rfl (Nat.le_of_ble_eq_true rfl) (by decide) (by decide) (fun S' hS' => ?_)
    obtain ⟨V4, v4, rfl, hC4, hN4, g4, hE4⟩ := hS'
    rw [E3 _ obu, E3 _ oa.2] at g4
    have k4 : ∀ k, 5 ≤ k → k < 12 → v4 (w k) = v3 (w k) := fun k h5 h12 => hE4 _ (fun h => by
      rcases h with h | h | h | h | h <;> exact nw h12 (by decide) (by omega) h)
    have E4 : eV (aW w) val v4 := E3.trans (hE4.mono (fun o h => by
      rcases h with h | h | h | h | h <;> (rw [h]; exact sc _ (by decide))))
    refine z_aload_n F dX0_multiply_76 rfl ?_
    refine z_aload F dX0_multiply_77 rfl ?_
    refine z_aload_n F dX0_multiply_79 rfl ?_
    refine z_getR F dX0_multiply_80 gr_X0_40 (by assumption) (by assumption) ?_
    refine z_cVv F (c_cut hJ hA hC4 ibu i9 (nw (by decide) (by decide) (by decide)) (nw (by decide) (by decide) (by decide)) (nw (by decide) (by decide) (by decide)) (by rw [E4 _ obu]; exact lt14 wbu (by decide))) dX0_multiply_83 ml_X0_141 ok_X0_cut hA0 (by decide) rfl rfl rfl (Nat.le_of_ble_eq_true rfl) (by decide) (by decide) (fun S' hS' => ?_)
    obtain ⟨V5, v5, rfl, hC5, hN5, g5, hE5⟩ := hS'
    rw [E4 _ obu, g4] at g5
    have k5 : ∀ k, k < 12 → k ≠ 0 → k ≠ 5 → k ≠ 9 → v5 (w k) = v4 (w k) := fun k h12 h0 h5 h9 => hE5 _ (fun h => by
      rcases h with h | h | h
      · exact nw h12 (by decide) h0 h
      · exact nw h12 (by decide) h5 h
      · exact nw h12 (by decide) h9 h)
    have E5 : eV (aW w) val v5 := E4.trans (hE5.mono (fun o h => by
      rcases h with h | h | h <;> (rw [h]; exact sc _ (by decide))))
    refine z_aload_n F dX0_multiply_86 rfl ?_
    refine z_aload_n F dX0_multiply_87 rfl ?_
    refine z_getR F dX0_multiply_88 gr_X0_144 (by assumption) (by assumption) ?_
    refine z_aload_n F dX0_multiply_91 rfl ?_
    refine z_getR F dX0_multiply_92 gr_X0_43 (by assumption) (by assumption) ?_
    refine z_cVv F (c_cut hJ hA hC5 iva i10 (nw (by decide) (by decide) (by decide)) (nw (by decide) (by decide) (by decide)) (nw (by decide) (by decide) (by decide)) (by rw [E5 _ oa.2]; exact lt14 wva (by decide))) dX0_multiply_95 ml_X0_141 ok_X0_cut hA0 (by decide) rfl rfl rfl (Nat.le_of_ble_eq_true rfl) (by decide) (by decide) (fun S' hS' => ?_)
    obtain ⟨V6, v6, rfl, hC6, hN6, g6, hE6⟩ := hS'
    rw [E5 _ oa.2, k5 4 (by decide) (by decide) (by decide) (by decide), g4] at g6
    have k6' : ∀ k, k < 12 → k ≠ 0 → k ≠ 5 → k ≠ 10 → v6 (w k) = v5 (w k) := fun k h12 h0 h5 h9 => hE6 _ (fun h => by
      rcases h with h | h | h
      · exact nw h12 (by decide) h0 h
      · exact nw h12 (by decide) h5 h
      · exact nw h12 (by decide) h9 h)
    have E6 : eV (aW w) val v6 := E5.trans (hE6.mono (fun o h => by
      rcases h with h | h | h <;> (rw [h]; exact sc _ (by decide))))
    -- the four parts
    have p8 : v6 (w 8) = val (uo a) / Nat.gcd (val (uo a)) (val bl') := by
      rw [k6' 8 (by decide) (by decide) (by decide) (by decide), k5 8 (by decide) (by decide) (by decide) (by decide), k4 8 (by decide) (by decide), k38, g2]
    have p9 : v6 (w 9) = val bu / Nat.gcd (val bu) (val (vo a)) := by
      rw [k6' 9 (by decide) (by decide) (by decide) (by decide), g5]
    have p10 : v6 (w 10) = val (vo a) / Nat.gcd (val bu) (val (vo a)) := g6
    have p11 : v6 (w 11) = val bl' / Nat.gcd (val (uo a)) (val bl') := by
      rw [k6' 11 (by decide) (by decide) (by decide) (by decide), k5 11 (by decide) (by decide) (by decide) (by decide), k4 11 (by decide) (by decide), g3]
    refine z_aload_n F dX0_multiply_98 rfl ?_
    refine z_getR F dX0_multiply_99 gr_X0_31 (by assumption) (by assumption) ?_
    refine z_aload_n F dX0_multiply_102 rfl ?_
    refine z_getR F dX0_multiply_103 gr_X0_37 (by assumption) (by assumption) ?_
    refine z_aload_n F dX0_multiply_106 rfl ?_
    refine z_getR F dX0_multiply_107 gr_X0_40 (by assumption) (by assumption) ?_
    refine z_cVv F (C_setProduct hC6 hJ i6 i8 i9 (nw (by decide) (by decide) (by decide)) (nw (by decide) (by decide) (by decide)) (by rw [p8, p9]; exact nl66 (div_lt6 _ wua) (div_lt6 _ wbu))) dX0_multiply_110 ml_X0_151 ok_X8_setProduct k6 (by decide) rfl rfl rfl (Nat.le_of_ble_eq_true rfl) (by decide) (by decide) (fun S' hS' => ?_)
    obtain ⟨V7, rfl, hC7, hN7⟩ := hS'
    rw [p8, p9] at hC7
    refine z_aload_n F dX0_multiply_113 rfl ?_
    refine z_getR F dX0_multiply_114 gr_X0_34 (by assumption) (by assumption) ?_
    refine z_aload_n F dX0_multiply_117 rfl ?_
    refine z_getR F dX0_multiply_118 gr_X0_43 (by assumption) (by assumption) ?_
    refine z_aload_n F dX0_multiply_121 rfl ?_
    refine z_getR F dX0_multiply_122 gr_X0_46 (by assumption) (by assumption) ?_
    refine z_cVv F (C_setProduct hC7 hJ i7 i10 i11 (nw (by decide) (by decide) (by decide)) (nw (by decide) (by decide) (by decide)) (by rw [up_ne _ _ (nw (by decide) (by decide) (by decide)), up_ne _ _ (nw (by decide) (by decide) (by decide)), p10, p11]; exact nl66 (div_lt6 _ wva) (div_lt6 _ wbl))) dX0_multiply_125 ml_X0_151 ok_X8_setProduct k7 (by decide) rfl rfl rfl (Nat.le_of_ble_eq_true rfl) (by decide) (by decide) (fun S' hS' => ?_)
    obtain ⟨V8, rfl, hC8, hN8⟩ := hS'
    rw [up_ne _ _ (nw (i := 10) (j := 6) (by decide) (by decide) (by decide)), up_ne _ _ (nw (i := 11) (j := 6) (by decide) (by decide) (by decide)), p10, p11] at hC8
    generalize hv8 : va_up (va_up v6 (w 6) (val (uo a) / Nat.gcd (val (uo a)) (val bl') * (val bu / Nat.gcd (val bu) (val (vo a))))) (w 7) (val (vo a) / Nat.gcd (val bu) (val (vo a)) * (val bl' / Nat.gcd (val (uo a)) (val bl'))) = v8 at hC8
    have e86 : v8 (w 6) = val (uo a) / Nat.gcd (val (uo a)) (val bl') * (val bu / Nat.gcd (val bu) (val (vo a))) := by rw [← hv8, up_ne _ _ (nw (by decide) (by decide) (by decide)), up_self]
    have e87 : v8 (w 7) = val (vo a) / Nat.gcd (val bu) (val (vo a)) * (val bl' / Nat.gcd (val (uo a)) (val bl')) := by rw [← hv8, up_self]
    have E8 : eV (aW w) val v8 := by rw [← hv8]; exact (E6.up (sc 6 (by decide))).up (sc 7 (by decide))
    have hN18 : eN Z V V8 := ((((((hN1.trans hN2).trans hN3).trans hN4).trans hN5).trans hN6).trans hN7).trans hN8
    have hF8 := hC.w hC8 hN18
    have hout := hS.1 q hq
    -- the sign, and setWide
    have tail : zX Γ κ (Z, V8) 0 0 Q 145 [some (.ref A), some (.ref a), some (.ref b), some (.int (zb d)), some (.ref q), some (.ref bu), some (.ref bl')] [.int (zb (bel a != bel b)), .ref A] := by
      refine z_aload_n F dX0_multiply_145 rfl ?_
      refine z_getR F dX0_multiply_146 gr_X0_31 (by assumption) (by assumption) ?_
      refine z_aload_n F dX0_multiply_149 rfl ?_
      refine z_getR F dX0_multiply_150 gr_X0_34 (by assumption) (by assumption) ?_
      refine z_aload F dX0_multiply_153 rfl ?_
      refine z_cVz F (c_setWide hJ hA hF8 hS hq i6 i7 (Ne.symm (hout.2 7 (by decide)).1)) dX0_multiply_155 ml_X0_158 ok_X0_setWide hA0 (by decide) rfl rfl rfl (Nat.le_of_ble_eq_true rfl) (by decide) (by decide) (fun r S' hr => ?_)
      obtain ⟨rfl, hr⟩ := hr
      rw [e86, e87] at hr ⊢
      subst hQ
      exact z_zret F _ dX0_multiply_158 rfl rfl ⟨rfl, by
        refine tP.after hN18 E8 hr ?_
        congr 1
        simp only [fr]
        rw [E8 _ (hS.out hq).1, E8 _ (hS.out hq).2]⟩
    have hba : vI V8 3 2 a = zb (bel a) := hF8.2 a ha
    have hbb : vI V8 3 2 b = zb (bel b) := hF8.2 b hb
    refine z_aload_n F dX0_multiply_128 rfl ?_
    refine z_aload_n F dX0_multiply_129 rfl ?_
    refine z_getI F dX0_multiply_130 gi_X0_147 (by assumption) ?_
    refine z_ti hba ?_
    refine z_aload_n F dX0_multiply_133 rfl ?_
    refine z_getI F dX0_multiply_134 gi_X0_147 (by assumption) ?_
    refine z_ti hbb ?_
    refine z_icmp_eq (tgt := 144) F dX0_multiply_137 (by decide) (fun c => ?_) (fun c => ?_)
    · have h := (zb_cmp _ _).mp c
      refine z_iconst (v := nI 0) F dX0_multiply_144 (by decide) ?_
      have e : nI 0 = zb (bel a != bel b) := by rw [h]; cases bel b <;> rfl
      rw [e]
      exact tail
    · have h := mt (zb_cmp _ _).mpr c
      refine z_iconst (v := nI 1) F dX0_multiply_140 (by decide) ?_
      refine z_goto (tgt := 145) F dX0_multiply_141 (by decide) ?_
      have e : nI 1 = zb (bel a != bel b) := by
        revert h
        cases bel a <;> cases bel b <;> intro h <;> first | rfl | exact absurd rfl h
      rw [e]
      exact tail
  cases d with
  | true =>
    refine z_iload_n F dX0_multiply_0 rfl ?_
    refine z_if_eq (tgt := 11) F dX0_multiply_1 (by decide) (fun c => ?_) (fun c => ?_)
    · exact absurd c (by decide)
    · refine z_aload_n F dX0_multiply_4 rfl ?_
      refine z_getR F dX0_multiply_5 gr_X0_144 (by assumption) (by assumption) ?_
      refine z_goto (tgt := 15) F dX0_multiply_8 (by decide) ?_
      refine z_astore_5 F dX0_multiply_15 rfl ?_
      refine z_iload_n F dX0_multiply_17 rfl ?_
      refine z_if_eq (tgt := 28) F dX0_multiply_18 (by decide) (fun c2 => ?_) (fun c2 => ?_)
      · exact absurd c2 (by decide)
      · refine z_aload_n F dX0_multiply_21 rfl ?_
        refine z_getR F dX0_multiply_22 gr_X0_136 (by assumption) (by assumption) ?_
        refine z_goto (tgt := 32) F dX0_multiply_25 (by decide) ?_
        refine z_astore_6 F dX0_multiply_32 rfl ?_
        exact main (vo b) (uo b) ivb iub ob.2 ob.1 wvb wub (Nat.pos_of_ne_zero (hd rfl)) (by rw [Nat.gcd_comm]; exact gbb) (by simp [fmul, fr])
  | false =>
    refine z_iload_n F dX0_multiply_0 rfl ?_
    refine z_if_eq (tgt := 11) F dX0_multiply_1 (by decide) (fun c => ?_) (fun c => ?_)
    · refine z_aload_n F dX0_multiply_11 rfl ?_
      refine z_getR F dX0_multiply_12 gr_X0_136 (by assumption) (by assumption) ?_
      refine z_astore_5 F dX0_multiply_15 rfl ?_
      refine z_iload_n F dX0_multiply_17 rfl ?_
      refine z_if_eq (tgt := 28) F dX0_multiply_18 (by decide) (fun c2 => ?_) (fun c2 => ?_)
      · refine z_aload_n F dX0_multiply_28 rfl ?_
        refine z_getR F dX0_multiply_29 gr_X0_144 (by assumption) (by assumption) ?_
        refine z_astore_6 F dX0_multiply_32 rfl ?_
        exact main (uo b) (vo b) iub ivb ob.1 ob.2 wub wvb vb0 gbb (by simp [fmul, fr])
      · exact absurd (by decide) c2
    · exact absurd (by decide) c
end ARM
