/-! ===== FractionRowsModel: determinants ===== -/
/-- the orders come to an end -/
def ends (n : Nat) : Nat → (Nat → Nat) → Bool
  | 0, _ => false
  | d + 1, o => match nxt n o with
    | none => true
    | some o' => ends n d o'
set_option maxRecDepth 100000 in
theorem ends5 : ends 1 120 (fun i => i) = true ∧ ends 2 120 (fun i => i) = true ∧ ends 3 120 (fun i => i) = true ∧ ends 4 120 (fun i => i) = true ∧ ends 5 120 (fun i => i) = true := by decide +kernel
theorem ends_n {n : Nat} (h : 1 ≤ n ∧ n ≤ 5) : ends n 120 (fun i => i) = true := by
  obtain ⟨h1, h2, h3, h4, h5⟩ := ends5
  match n, h with
  | 1, _ => exact h1
  | 2, _ => exact h2
  | 3, _ => exact h3
  | 4, _ => exact h4
  | 5, _ => exact h5
/-- pairs that fall, by the second of them -/
def mdK (o : Nat → Nat) (i : Nat) : Nat → Nat → Bool → Bool
  | 0, _, b => b
  | d + 1, k, b => mdK o i d (k + 1) (b != decide (o i < o k))
def mdI (o : Nat → Nat) : Nat → Nat → Bool → Bool
  | 0, _, b => b
  | d + 1, i, b => mdI o d (i + 1) (mdK o i i 0 b)
theorem ite_xor (c : Prop) [Decidable c] (b : Bool) : (if c then !b else b) = (b ^^ decide c) := by
  by_cases h : c
  · rw [if_pos h, decide_eq_true h]; cases b <;> rfl
  · rw [if_neg h, decide_eq_false h]; cases b <;> rfl
theorem bne_xor' (a b : Bool) : (a != b) = (a ^^ b) := by cases a <;> cases b <;> rfl
theorem xor6 : ∀ a b c d e f : Bool, (a ^^ (b ^^ (c ^^ (d ^^ (e ^^ f))))) = (a ^^ (b ^^ (d ^^ (c ^^ (e ^^ f))))) := by decide
theorem xor10 : ∀ a b c d e f g h i j : Bool, (a ^^ (b ^^ (c ^^ (d ^^ (e ^^ (f ^^ (g ^^ (h ^^ (i ^^ j))))))))) = (a ^^ (b ^^ (d ^^ (g ^^ (c ^^ (e ^^ (h ^^ (f ^^ (i ^^ j))))))))) := by decide +kernel
theorem odd_same {n : Nat} (o : Nat → Nat) (h : 1 ≤ n ∧ n ≤ 5) : mdI o (n - 1) 1 false = odI o n n 0 false := by
  match n, h with
  | 1, _ => rfl
  | 2, _ => simp only [mdI, mdK, odI, odK, ite_xor, bne_xor', Nat.reduceAdd, Nat.reduceSub, Nat.reduceEqDiff]
  | 3, _ => simp only [mdI, mdK, odI, odK, ite_xor, bne_xor', Nat.reduceAdd, Nat.reduceSub, Nat.reduceEqDiff]
  | 4, _ =>
    simp only [mdI, mdK, odI, odK, ite_xor, bne_xor', Nat.reduceAdd, Nat.reduceSub, Nat.reduceEqDiff, Bool.false_xor, Bool.xor_assoc]
    exact xor6 _ _ _ _ _ _
  | 5, _ =>
    simp only [mdI, mdK, odI, odK, ite_xor, bne_xor', Nat.reduceAdd, Nat.reduceSub, Nat.reduceEqDiff, Bool.false_xor, Bool.xor_assoc]
    exact xor10 _ _ _ _ _ _ _ _ _ _
theorem dsc_rise {o : Nat → Nat} : ∀ {m i : Nat}, dsc o m = some i → ¬ o (i + 1) < o i
  | 0, i, h => by cases h
  | m + 1, i, h => by
    simp only [dsc] at h
    split at h
    · exact dsc_rise h
    · cases h; assumption
theorem fmul_n0 {x y : Fr} (hx : x.2.1 ≠ 0) (hy : y.2.1 ≠ 0) : (fmul x y false).2.1 ≠ 0 := by
  have h : x.2.1 * y.2.1 ≠ 0 := Nat.mul_ne_zero hx hy
  show (norm _ (x.2.1 * y.2.1) _).2.1 ≠ 0
  unfold norm
  rw [if_neg h]
  exact Nat.ne_of_gt (Nat.div_pos (Nat.gcd_le_left _ (Nat.pos_of_ne_zero h)) (Nat.gcd_pos_of_pos_left _ (Nat.pos_of_ne_zero h)))
section MOD18
variable {Γ : Gm} {Z : Hz} {V : Hv} {a : Nat → Nat} {L : Nat → Nat} {T : Nat → Fr} {f n : Nat} {M : Mx} {s : St} {o : Nat → Nat}
set_option maxRecDepth 100000 in
set_option maxHeartbeats 2000000 in
theorem m_byPivots {way : Nat} (hR : mR Z a) (hn : 1 ≤ n ∧ n ≤ 5) (h2 : vI V 9 2 (a 0) = nI n) (hL : mL a V T L) (hM : ∀ p k, p < n → k ≤ n → T (40 + 6 * p + k) = M p k) (ho : mOk n M) (hway : way ≤ 1) : zCt Γ mX10_byPivots 7 175 0 0 [.ref (a 0), .int (nI way)] (Z, V) (pZ (fun r S' => ∃ V' T' L', S' = (Z, V') ∧ eE a V V' ∧ mL a V' T' L' ∧ tZ T T' ∧ (((elim way n n M).bind (detP n) = none ∧ r = false) ∨ ∃ x, (elim way n n M).bind (detP n) = some x ∧ r = true ∧ T' 105 = x))) := by
  refine zCt.of [some (.ref (a 0)), some (.int (nI way)), none, none] pn_X10_byPivots rfl (Nat.le_of_ble_eq_true rfl) rfl (fun κ F => ?_)
  obtain ⟨b0, b1, b2, -⟩ := hR.1
  obtain ⟨d1, d2, d3, d4⟩ := hR.2.1
  have n21 := hR.n21
  obtain ⟨R, hRR⟩ : ∃ R, R = (elim way n n M).bind (detP n) := ⟨_, rfl⟩
  rw [← hRR]
  generalize hQ : zQ Γ κ (pZ (fun r S' => ∃ V' T' L', S' = (Z, V') ∧ eE a V V' ∧ mL a V' T' L' ∧ tZ T T' ∧ ((R = none ∧ r = false) ∨ ∃ x, R = some x ∧ r = true ∧ T' 105 = x))) 0 0 = Q
  have hms : n - 1 + 1 = n := by omega
  refine z_aload_n F dX10_byPivots_0 rfl ?_
  refine z_iload_n F dX10_byPivots_1 rfl ?_
  refine z_aload_n F dX10_byPivots_2 rfl ?_
  refine z_getI F dX10_byPivots_3 gi_X10_44 (by assumption) ?_
  refine z_ti h2 ?_
  refine z_iconst (v := nI 1) F dX10_byPivots_6 (by decide) ?_
  refine z_isub F dX10_byPivots_7 ?_
  refine z_ti (pk_sub hn.1) ?_
  refine z_cVi F (m_eliminated (way := way) (ms := n - 1) (M := M) hR hn h2 hL hM ho hway (by omega) (by omega)) dX10_byPivots_8 ml_X10_183 ok_X10_eliminated b0 (by decide) rfl rfl rfl (Nat.le_of_ble_eq_true rfl) (by decide) (by decide) (fun r S' hr => ?_)
  obtain ⟨VE, TE, LE, rfl, hE, hLE, hTE, hr⟩ := hr
  rw [hms] at hr
  rcases hr with ⟨hr1, rfl⟩ | ⟨el, hr1, rfl, hS⟩
  · rw [hr1] at hRR
    refine z_istore_n_2 F dX10_byPivots_11 rfl ?_
    refine z_iload_n F dX10_byPivots_12 rfl ?_
    refine z_bipush (v := (-3)) F dX10_byPivots_13 (by decide) ?_
    refine z_icmp_ne (tgt := 20) F dX10_byPivots_15 (by decide) (fun c => ?_) (fun c => ?_)
    · exact absurd rfl c
    · subst hQ
      refine z_iconst (v := nI 0) F dX10_byPivots_18 (by decide) ?_
      exact z_zret F false dX10_byPivots_19 rfl rfl ⟨VE, TE, LE, rfl, hE, hLE, hTE, Or.inl ⟨hRR, rfl⟩⟩
  · rw [hr1] at hRR
    obtain ⟨M1, ro, t, cc, sz, od⟩ := el
    obtain ⟨⟨hC, ho1⟩, -, -, ⟨h17, h18⟩, htn, -, hpv, hid⟩ := hS
    simp only at hC ho1 h17 h18 htn hpv hid
    have hdet : R = if t < n then some f0 else (prP (fun t => M1 t (cc t)) (n - 1) 1 (M1 0 (cc 0))).map (fun x => if od = true then fneg x else x) := hRR
    have e2 : vI VE 9 2 (a 0) = nI n := by rw [hE.i (by decide) (by decide)]; exact h2
    refine z_istore_n_2 F dX10_byPivots_11 rfl ?_
    refine z_iload_n F dX10_byPivots_12 rfl ?_
    refine z_bipush (v := (-3)) F dX10_byPivots_13 (by decide) ?_
    refine z_icmp_ne (tgt := 20) F dX10_byPivots_15 (by decide) (fun c => ?_) (fun c => ?_)
    · refine z_aload_n F dX10_byPivots_20 rfl ?_
      refine z_getI F dX10_byPivots_21 gi_X10_167 (by assumption) ?_
      refine z_ti h18 ?_
      refine z_if_eq (tgt := 35) F dX10_byPivots_24 (by decide) (fun c2 => ?_) (fun c2 => ?_)
      · have h : ¬ t < n := fun z => zb_f c2 (decide_eq_true z)
        have htn' : t = n := by omega
        rw [if_neg h] at hdet
        have hcc := hid htn'
        have loop : ∀ (d p : Nat) (V3 : Hv) (T3 : Nat → Fr) (L3 : Nat → Nat) (y : Fr), p + d = n → 1 ≤ p → e2A a VE V3 → mL a V3 T3 L3 → tZ T T3 → mC n T3 M1 → T3 105 = y → fok y → y.2.1 ≠ 0 → prP (fun t => M1 t (cc t)) d p y = prP (fun t => M1 t (cc t)) (n - 1) 1 (M1 0 (cc 0)) → zX Γ κ (Z, V3) 0 0 Q 45 [some (.ref (a 0)), some (.int (nI way)), some (.int (nI t)), some (.int (nI p))] [] := by
          intro d
          induction d with
          | zero =>
            intro p V3 T3 L3 y hp hp1 hE3 hL3 hT3 hC3 h105 oy y0 hsp
            have e2 : vI V3 9 2 (a 0) = nI n := by rw [hE3.i]; exact e2
            have h173 : vI V3 9 17 (a 0) = zb od := by rw [hE3.i]; exact h17
            have hsp' : prP (fun t => M1 t (cc t)) (n - 1) 1 (M1 0 (cc 0)) = some y := hsp.symm
            rw [hsp'] at hdet
            have iny := hR.inb (f := 105) (by decide)
            have rby := hL3.rb (f := 105) (by decide)
            rw [h105] at rby
            have fin : ∀ b : Bool, b = (y.1 != od) → zX Γ κ (Z, V3) 0 0 Q 104 [some (.ref (a 0)), some (.int (nI way)), some (.int (nI t)), some (.int (nI p))] [.int (zb b), .int (nI 105), .ref (a 2)] := by
              intro b hb
              have hL4 : mL a (sA V3 (a 2) (upd (vA V3 (a 2)) (nI 105).toNatClampNeg (zb b))) (va_up T3 105 (b, y.2.1, y.2.2)) L3 := by
                obtain ⟨q1, q2, q3⟩ := hL3.2 105 (by decide)
                rw [h105] at q1 q2
                refine hL3.put (by decide) (by rw [vA_sA_ne _ _ (Ne.symm n21)]; exact hL3.1) (fun _ _ _ _ => rfl) q1 q2 (fun g hg => ?_) ?_
                · rw [vA_sA_self, nI_clamp (by decide), pk_un hg]
                · rw [vA_sA_self, nI_clamp (by decide), pk_us]
              have hx : R = some (b, y.2.1, y.2.2) := by
                rw [hdet]
                show some (if od = true then fneg y else y) = _
                congr 1
                by_cases h1 : od = true
                · rw [if_pos h1, hb, h1]
                  unfold fneg
                  rw [decide_eq_true y0, Bool.and_true]
                  cases y.1 <;> rfl
                · rw [if_neg h1, hb, Bool.eq_false_iff.mpr h1]
                  have e9 : (y.1 != false) = y.1 := by cases y.1 <;> rfl
                  rw [e9]
              subst hQ
              refine z_zast F dX10_byPivots_104 (by assumption) (by assumption) (zb01 _) ?_
              refine z_iconst (v := nI 1) F dX10_byPivots_105 (by decide) ?_
              exact z_zret F true dX10_byPivots_106 rfl rfl ⟨_, _, L3, rfl, (hE.trans hE3.e).trans (e2A.sB V3 _).e, hL4, hT3.trans (tZ.up (by unfold scr; omega)), Or.inr ⟨_, hx, rfl, up_self _ _ _⟩⟩
            refine z_iload_n F dX10_byPivots_45 rfl ?_
            refine z_aload_n F dX10_byPivots_46 rfl ?_
            refine z_getI F dX10_byPivots_47 gi_X10_44 (by assumption) ?_
            refine z_ti e2 ?_
            refine z_icmp_ge (tgt := 79) F dX10_byPivots_50 (by decide) (fun c3 => ?_) (fun c3 => ?_)
            · refine z_aload_n F dX10_byPivots_79 rfl ?_
              refine z_getR F dX10_byPivots_80 gr_X10_13 (by assumption) (by assumption) ?_
              refine z_bipush (v := nI 105) F dX10_byPivots_83 (by decide) ?_
              refine z_aload_n F dX10_byPivots_85 rfl ?_
              refine z_getR F dX10_byPivots_86 gr_X10_13 (by assumption) (by assumption) ?_
              refine z_bipush (v := nI 105) F dX10_byPivots_89 (by decide) ?_
              refine z_zald F dX10_byPivots_91 (by assumption) (by assumption) ?_
              refine z_ti rby ?_
              refine z_aload_n F dX10_byPivots_92 rfl ?_
              refine z_getI F dX10_byPivots_93 gi_X10_163 (by assumption) ?_
              refine z_ti h173 ?_
              refine z_icmp_eq (tgt := 103) F dX10_byPivots_96 (by decide) (fun c4 => ?_) (fun c4 => ?_)
              · have e : y.1 = od := (zb_cmp _ _).mp c4
                refine z_iconst (v := nI 0) F dX10_byPivots_103 (by decide) ?_
                exact fin false (by rw [e]; cases od <;> rfl)
              · have e : ¬ y.1 = od := fun z => c4 ((zb_cmp _ _).mpr z)
                refine z_iconst (v := nI 1) F dX10_byPivots_99 (by decide) ?_
                refine z_goto (tgt := 104) F dX10_byPivots_100 (by decide) ?_
                exact fin true (by revert e; cases y.1 <;> cases od <;> decide)
            · exact absurd (nI_le (by omega) (by omega)) c3
          | succ d ih =>
            intro p V3 T3 L3 y hp hp1 hE3 hL3 hT3 hC3 h105 oy y0 hsp
            have e2 : vI V3 9 2 (a 0) = nI n := by rw [hE3.i]; exact e2
            have hpp := hcc p (by omega)
            have hpr : prP (fun t => M1 t (cc t)) (d + 1) p y = if wideB (fmul y (M1 p (cc p)) false) = true then prP (fun t => M1 t (cc t)) d (p + 1) (fmul y (M1 p (cc p)) false) else none := rfl
            rw [hpr, hpp] at hsp
            have eT := hC3 p p (by omega) (by omega)
            have oM := ho1 p p (by omega) (by omega)
            have p0 := (hpv p (by omega)).1
            rw [hpp] at p0
            obtain ⟨z, hz⟩ : ∃ z, z = fmul y (M1 p p) false := ⟨_, rfl⟩
            rw [← hz] at hsp
            have ix : 70 + 7 * p = 70 + 6 * p + p := by omega
            refine z_iload_n F dX10_byPivots_45 rfl ?_
            refine z_aload_n F dX10_byPivots_46 rfl ?_
            refine z_getI F dX10_byPivots_47 gi_X10_44 (by assumption) ?_
            refine z_ti e2 ?_
            refine z_icmp_ge (tgt := 79) F dX10_byPivots_50 (by decide) (fun c3 => ?_) (fun c3 => ?_)
            · exact absurd ((nI_leI (by omega) (by omega)).mp c3) (by omega)
            · refine z_aload_n F dX10_byPivots_53 rfl ?_
              refine z_bipush (v := nI 105) F dX10_byPivots_54 (by decide) ?_
              refine z_bipush (v := nI 70) F dX10_byPivots_56 (by decide) ?_
              refine z_bipush (v := nI 7) F dX10_byPivots_58 (by decide) ?_
              refine z_iload_n F dX10_byPivots_60 rfl ?_
              refine z_imul F dX10_byPivots_61 ?_
              refine z_ti (pk_mul 7 p) ?_
              refine z_iadd F dX10_byPivots_62 ?_
              refine z_ti ((nI_add 70 _).trans (congrArg nI ix)) ?_
              refine z_bipush (v := nI 105) F dX10_byPivots_63 (by decide) ?_
              refine z_cVz F (m_product (x := 105) (y := 70 + 6 * p + p) (c := 105) hR hL3 (by decide) (by omega) (by decide) (by rw [h105]; exact oy.2) (by rw [eT]; exact oM.2) (by rw [h105]; exact Nat.ne_of_gt oy.1.1) (by rw [eT]; exact Nat.ne_of_gt oM.1.1)) dX10_byPivots_65 ml_X10_144 ok_X10_product b0 (by decide) rfl rfl rfl (Nat.le_of_ble_eq_true rfl) (by decide) (by decide) (fun r S' hr => ?_)
              rw [h105, eT, ← hz] at hr
              obtain ⟨rfl, V4, L4, rfl, hE4, hL4⟩ := hr
              have hT4 := hT3.trans (tZ.up (T := T3) (q := 105) (x := z) (by unfold scr; omega))
              refine z_if_ne (tgt := 73) F dX10_byPivots_68 (by decide) (fun c4 => ?_) (fun c4 => ?_)
              · have hw := zb_t c4
                rw [if_pos hw] at hsp
                have oz : fok z := by rw [hz] at hw ⊢; exact fmul_ok oy oM (fun z => by cases z) hw
                refine z_iinc_3 F dX10_byPivots_73 rfl ?_
                refine z_goto (tgt := 45) F dX10_byPivots_76 (by decide) ?_
                rw [show nI p + Int32.ofInt 1 = nI (p + 1) from nI_1 p]
                exact ih (p + 1) V4 _ L4 z (by omega) (by omega) (hE3.trans hE4) hL4 hT4 (hC3.sc hn.2 (by omega)) (up_self _ _ _) oz (by rw [hz]; exact fmul_n0 y0 p0) hsp
              · have hw := zb_f c4
                rw [if_neg hw] at hsp
                rw [← hsp] at hdet
                subst hQ
                refine z_iconst (v := nI 0) F dX10_byPivots_71 (by decide) ?_
                exact z_zret F false dX10_byPivots_72 rfl rfl ⟨V4, _, L4, rfl, hE.trans (hE3.trans hE4).e, hL4, hT4, Or.inl ⟨hdet, rfl⟩⟩
        have q0 := hcc 0 (by omega)
        have p0 := (hpv 0 (by omega)).1
        rw [q0] at p0
        have eT := hC 0 0 (by omega) (by omega)
        refine z_aload_n F dX10_byPivots_35 rfl ?_
        refine z_bipush (v := nI 70) F dX10_byPivots_36 (by decide) ?_
        refine z_bipush (v := nI 105) F dX10_byPivots_38 (by decide) ?_
        refine z_cVv F (m_same (f := 70) (g := 105) hR hLE (by decide) (by decide)) dX10_byPivots_40 ml_X10_126 ok_X10_same b0 (by decide) rfl rfl rfl (Nat.le_of_ble_eq_true rfl) (by decide) (by decide) (fun S' hS' => ?_)
        obtain ⟨V2, L2, rfl, hE2, hL2⟩ := hS'
        rw [show TE 70 = M1 0 0 from eT] at hL2
        refine z_iconst (v := nI 1) F dX10_byPivots_43 (by decide) ?_
        refine z_istore_n_3 F dX10_byPivots_44 rfl ?_
        exact loop (n - 1) 1 V2 _ L2 (M1 0 0) (by omega) (by decide) hE2 hL2 (hTE.trans (tZ.up (by unfold scr; omega))) (hC.sc hn.2 (by omega)) (up_self _ _ _) (ho1 0 0 (by omega) (by omega)) p0 (by rw [q0])
      · have h : t < n := of_decide_eq_true (zb_t c2)
        rw [if_pos h] at hdet
        refine z_aload_n F dX10_byPivots_27 rfl ?_
        refine z_bipush (v := nI 105) F dX10_byPivots_28 (by decide) ?_
        refine z_cVv F (m_nothing (f := 105) hR hLE (by decide)) dX10_byPivots_30 ml_X10_48 ok_X10_nothing b0 (by decide) rfl rfl rfl (Nat.le_of_ble_eq_true rfl) (by decide) (by decide) (fun S' hS' => ?_)
        obtain ⟨V2, L2, rfl, hE2, hL2⟩ := hS'
        subst hQ
        refine z_iconst (v := nI 1) F dX10_byPivots_33 (by decide) ?_
        exact z_zret F true dX10_byPivots_34 rfl rfl ⟨V2, _, L2, rfl, hE.trans hE2.e, hL2, hTE.trans (tZ.up (by unfold scr; omega)), Or.inr ⟨_, hdet, rfl, up_self _ _ _⟩⟩
    · exact absurd c (nI_ne3 (show t < 1000 by omega))
/-- the order that stands -/
def oN (a : Nat → Nat) (V : Hv) (n : Nat) (o : Nat → Nat) : Prop := ∀ p, p < n → vA V (a 9) p = nI (o p) ∧ o p < n
theorem oN.swap {i k : Nat} {x y : Int32} (h : oN a V n o) (hi : i < n) (hk : k < n) (hx : x = nI (o k)) (hy : y = nI (o i)) (g : Nat → Int32) (hg : g = vA V (a 9)) : oN a (sA (sA V (a 9) (upd g i x)) (a 9) (upd (upd g i x) k y)) n (swp o i k) := fun p hp => by
  rw [vA_sA_self, hg, hx, hy]
  unfold swp
  by_cases e1 : p = k
  · rw [e1, pk_us]
    by_cases e2 : k = i
    · rw [if_pos e2, e2]; exact ⟨rfl, (h i hi).2⟩
    · rw [if_neg e2, if_pos rfl]; exact ⟨rfl, (h i hi).2⟩
  · rw [pk_un e1]
    by_cases e2 : p = i
    · rw [e2, pk_us, if_pos rfl]; exact ⟨rfl, (h k hk).2⟩
    · rw [pk_un e2, if_neg e2, if_neg e1]; exact h p hp
set_option maxRecDepth 100000 in
set_option maxHeartbeats 1000000 in
theorem m_isNext (hR : mR Z a) (hn : 1 ≤ n ∧ n ≤ 5) (h2 : vI V 9 2 (a 0) = nI n) (hO : oN a V n o) : zCt Γ mX10_isNext 0 0 0 0 [.ref (a 0)] (Z, V) (pZ (fun r S' => ∃ V', S' = (Z, V') ∧ eA a (fun k => k = 9) V V' ∧ ((nxt n o = none ∧ r = false) ∨ ∃ o', nxt n o = some o' ∧ r = true ∧ oN a V' n o'))) := by
  refine zCt.of [some (.ref (a 0)), none, none, none, none, none] pn_X10_isNext rfl (Nat.le_of_ble_eq_true rfl) rfl (fun κ F => ?_)
  obtain ⟨b0, b1, b2, b3, b4, b5, b6, b7, b8, b9, b10, b11⟩ := hR.1
  obtain ⟨r9, l9⟩ := hR.2.2.1 9 (by decide) (by decide)
  obtain ⟨n1, n5⟩ := hn
  generalize hQ : zQ Γ κ (pZ (fun r S' => ∃ V', S' = (Z, V') ∧ eA a (fun k => k = 9) V V' ∧ ((nxt n o = none ∧ r = false) ∨ ∃ o', nxt n o = some o' ∧ r = true ∧ oN a V' n o'))) 0 0 = Q
  have ai : ∀ (V1 : Hv) (o1 : Nat → Nat), oN a V1 n o1 → ∀ i, i < n → vp_in (nI i) (zn Z (a 9)) ∧ vA V1 (a 9) (nI i).toNatClampNeg = nI (o1 i) := fun V1 o1 h i hi => ⟨by rw [l9]; exact vp_in_nI (by omega) (by decide), by rw [nI_clamp (by omega)]; exact (h i hi).1⟩
  have turn : ∀ (i k : Nat) (d l h : Nat) (V1 : Hv) (o1 : Nat → Nat) (l3 : Option Value), h < n → l ≤ n → eA a (fun k => k = 9) V V1 → oN a V1 n o1 → h ≤ d + l → nxt n o = some (rvs d l h o1) → zX Γ κ (Z, V1) 0 0 Q 107 [some (.ref (a 0)), some (.int (nI i)), some (.int (nI k)), l3, some (.int (nI l)), some (.int (nI h))] [] := by
    intro i k d
    induction d with
    | zero =>
      intro l h V1 o1 l3 hh hln hE1 hO1 hlh hsp
      refine z_iload F dX10_isNext_107 rfl ?_
      refine z_iload F dX10_isNext_109 rfl ?_
      refine z_icmp_ge (tgt := 153) F dX10_isNext_111 (by decide) (fun c => ?_) (fun c => ?_)
      · subst hQ
        refine z_iconst (v := nI 1) F dX10_isNext_153 (by decide) ?_
        exact z_zret F true dX10_isNext_154 rfl rfl ⟨V1, rfl, hE1, Or.inr ⟨_, hsp, rfl, hO1⟩⟩
      · exact absurd (nI_le (by omega) (by omega)) c
    | succ d ih =>
      intro l h V1 o1 l3 hh hln hE1 hO1 hlh hsp
      simp only [rvs] at hsp
      refine z_iload F dX10_isNext_107 rfl ?_
      refine z_iload F dX10_isNext_109 rfl ?_
      refine z_icmp_ge (tgt := 153) F dX10_isNext_111 (by decide) (fun c => ?_) (fun c => ?_)
      · have hge : ¬ l < h := by
          intro z
          have := (nI_leI (a := h) (b := l) (by omega) (by omega)).mp c
          omega
        rw [if_neg hge] at hsp
        subst hQ
        refine z_iconst (v := nI 1) F dX10_isNext_153 (by decide) ?_
        exact z_zret F true dX10_isNext_154 rfl rfl ⟨V1, rfl, hE1, Or.inr ⟨_, hsp, rfl, hO1⟩⟩
      · have hlt : l < h := by
          rcases Nat.lt_or_ge l h with z | z
          · exact z
          · exact absurd (nI_le z (by omega)) c
        rw [if_pos hlt] at hsp
        have hln' : l < n := by omega
        have cll : (nI l).toNatClampNeg = l := nI_clamp (by omega)
        have clh : (nI h).toNatClampNeg = h := nI_clamp (by omega)
        obtain ⟨il, vl⟩ := ai V1 o1 hO1 l hln'
        obtain ⟨ih', vh⟩ := ai V1 o1 hO1 h hh
        have hO2 := hO1.swap hln' hh (x := nI (o1 h)) (y := nI (o1 l)) rfl rfl (vA V1 (a 9)) rfl
        obtain ⟨V2, hV2⟩ : ∃ V2, V2 = sA (sA V1 (a 9) (upd (vA V1 (a 9)) l (nI (o1 h)))) (a 9) (upd (upd (vA V1 (a 9)) l (nI (o1 h))) h (nI (o1 l))) := ⟨_, rfl⟩
        rw [← hV2] at hO2
        refine z_aload_n F dX10_isNext_114 rfl ?_
        refine z_getR F dX10_isNext_115 gr_X10_35 (by assumption) (by assumption) ?_
        refine z_iload F dX10_isNext_118 rfl ?_
        refine z_iald F dX10_isNext_120 (by assumption) (by assumption) ?_
        refine z_ti vl ?_
        refine z_istore_n_3 F dX10_isNext_121 rfl ?_
        refine z_aload_n F dX10_isNext_122 rfl ?_
        refine z_getR F dX10_isNext_123 gr_X10_35 (by assumption) (by assumption) ?_
        refine z_iload F dX10_isNext_126 rfl ?_
        refine z_aload_n F dX10_isNext_128 rfl ?_
        refine z_getR F dX10_isNext_129 gr_X10_35 (by assumption) (by assumption) ?_
        refine z_iload F dX10_isNext_132 rfl ?_
        refine z_iald F dX10_isNext_134 (by assumption) (by assumption) ?_
        refine z_ti vh ?_
        refine z_iast F dX10_isNext_135 (by assumption) (by assumption) ?_
        refine z_aload_n F dX10_isNext_136 rfl ?_
        refine z_getR F dX10_isNext_137 gr_X10_35 (by assumption) (by assumption) ?_
        refine z_iload F dX10_isNext_140 rfl ?_
        refine z_iload_n F dX10_isNext_142 rfl ?_
        refine z_iast F dX10_isNext_143 (by assumption) (by assumption) ?_
        refine z_V (Z := Z) (show _ = V2 by rw [hV2, cll, clh, vA_sA_self]) ?_
        obtain ⟨h', rfl⟩ : ∃ h', h = h' + 1 := ⟨h - 1, by omega⟩
        refine z_iinc_4 F dX10_isNext_144 rfl ?_
        refine z_iinc_5 F dX10_isNext_147 rfl ?_
        refine z_goto (tgt := 107) F dX10_isNext_150 (by decide) ?_
        rw [show nI l + Int32.ofInt 1 = nI (l + 1) from nI_1 l, nI_m1, nI_km1]
        exact ih (l + 1) h' V2 _ _ (by omega) (by omega) (by rw [hV2]; exact (hE1.trans (eA.set V1 _ rfl)).trans (eA.set _ _ rfl)) hO2 (by omega) hsp
  have seek : ∀ (i : Nat) (k : Nat), i < k → k < n → ¬ o (i + 1) < o i → nxt n o = some (rvs n (i + 1) (n - 1) (swp o i (fk o i k))) → zX Γ κ (Z, V) 0 0 Q 47 [some (.ref (a 0)), some (.int (nI i)), some (.int (nI k)), none, none, none] [] := by
    intro i k
    induction k with
    | zero => intro h; omega
    | succ k ih =>
      intro hik hkn hri hsp
      have hin : i < n := by omega
      simp only [fk] at hsp
      obtain ⟨ii, vi⟩ := ai V o hO i hin
      obtain ⟨ik, vk⟩ := ai V o hO (k + 1) hkn
      have hok := (hO (k + 1) hkn).2
      have hoi := (hO i hin).2
      refine z_aload_n F dX10_isNext_47 rfl ?_
      refine z_getR F dX10_isNext_48 gr_X10_35 (by assumption) (by assumption) ?_
      refine z_iload_n F dX10_isNext_51 rfl ?_
      refine z_iald F dX10_isNext_52 (by assumption) (by assumption) ?_
      refine z_ti vk ?_
      refine z_aload_n F dX10_isNext_53 rfl ?_
      refine z_getR F dX10_isNext_54 gr_X10_35 (by assumption) (by assumption) ?_
      refine z_iload_n F dX10_isNext_57 rfl ?_
      refine z_iald F dX10_isNext_58 (by assumption) (by assumption) ?_
      refine z_ti vi ?_
      refine z_icmp_ge (tgt := 68) F dX10_isNext_59 (by decide) (fun c2 => ?_) (fun c2 => ?_)
      · have hno : ¬ (i + 1 < k + 1 ∧ o (k + 1) < o i) := fun z => by have := (nI_leI (by omega) (by omega)).mp c2; omega
        rw [if_neg hno] at hsp
        have cll : (nI i).toNatClampNeg = i := nI_clamp (by omega)
        have clh : (nI (k + 1)).toNatClampNeg = k + 1 := nI_clamp (by omega)
        have hO2 := hO.swap hin hkn (x := nI (o (k + 1))) (y := nI (o i)) rfl rfl (vA V (a 9)) rfl
        obtain ⟨V2, hV2⟩ : ∃ V2, V2 = sA (sA V (a 9) (upd (vA V (a 9)) i (nI (o (k + 1))))) (a 9) (upd (upd (vA V (a 9)) i (nI (o (k + 1)))) (k + 1) (nI (o i))) := ⟨_, rfl⟩
        rw [← hV2] at hO2
        have e2 : vI V2 9 2 (a 0) = nI n := by rw [hV2]; exact h2
        refine z_aload_n F dX10_isNext_68 rfl ?_
        refine z_getR F dX10_isNext_69 gr_X10_35 (by assumption) (by assumption) ?_
        refine z_iload_n F dX10_isNext_72 rfl ?_
        refine z_iald F dX10_isNext_73 (by assumption) (by assumption) ?_
        refine z_ti vi ?_
        refine z_istore_n_3 F dX10_isNext_74 rfl ?_
        refine z_aload_n F dX10_isNext_75 rfl ?_
        refine z_getR F dX10_isNext_76 gr_X10_35 (by assumption) (by assumption) ?_
        refine z_iload_n F dX10_isNext_79 rfl ?_
        refine z_aload_n F dX10_isNext_80 rfl ?_
        refine z_getR F dX10_isNext_81 gr_X10_35 (by assumption) (by assumption) ?_
        refine z_iload_n F dX10_isNext_84 rfl ?_
        refine z_iald F dX10_isNext_85 (by assumption) (by assumption) ?_
        refine z_ti vk ?_
        refine z_iast F dX10_isNext_86 (by assumption) (by assumption) ?_
        refine z_aload_n F dX10_isNext_87 rfl ?_
        refine z_getR F dX10_isNext_88 gr_X10_35 (by assumption) (by assumption) ?_
        refine z_iload_n F dX10_isNext_91 rfl ?_
        refine z_iload_n F dX10_isNext_92 rfl ?_
        refine z_iast F dX10_isNext_93 (by assumption) (by assumption) ?_
        refine z_V (Z := Z) (show _ = V2 by rw [hV2, cll, clh, vA_sA_self]) ?_
        refine z_iload_n F dX10_isNext_94 rfl ?_
        refine z_iconst (v := nI 1) F dX10_isNext_95 (by decide) ?_
        refine z_iadd F dX10_isNext_96 ?_
        refine z_ti (nI_add i 1) ?_
        refine z_istore_4 F dX10_isNext_97 rfl ?_
        refine z_aload_n F dX10_isNext_99 rfl ?_
        refine z_getI F dX10_isNext_100 gi_X10_44 (by assumption) ?_
        refine z_ti e2 ?_
        refine z_iconst (v := nI 1) F dX10_isNext_103 (by decide) ?_
        refine z_isub F dX10_isNext_104 ?_
        refine z_ti (pk_sub n1) ?_
        refine z_istore_5 F dX10_isNext_105 rfl ?_
        exact turn i (k + 1) n (i + 1) (n - 1) V2 _ _ (by omega) (by omega) (by rw [hV2]; exact (eA.set (k := 9) (P := fun k => k = 9) V _ rfl).trans (eA.set (k := 9) (P := fun k => k = 9) _ _ rfl)) hO2 (by omega) hsp
      · have h2 : o (k + 1) < o i := by
          rcases Nat.lt_or_ge (o (k + 1)) (o i) with z | z
          · exact z
          · exact absurd (nI_le z (by omega)) c2
        have h1 : i + 1 < k + 1 := by
          rcases Nat.lt_or_ge (i + 1) (k + 1) with z | z
          · exact z
          · have e : k = i := by omega
            rw [e] at h2
            exact absurd h2 hri
        rw [if_pos ⟨h1, h2⟩] at hsp
        refine z_iinc_2 F dX10_isNext_62 rfl ?_
        refine z_goto (tgt := 47) F dX10_isNext_65 (by decide) ?_
        rw [nI_m1, nI_km1]
        exact ih (by omega) (by omega) hri hsp
  have rise : ∀ (m : Nat) (x : Int32), m < n → x + nI 1 = nI m → dsc o m = dsc o (n - 1) → zX Γ κ (Z, V) 0 0 Q 7 [some (.ref (a 0)), some (.int x), none, none, none, none] [] := by
    intro m
    induction m with
    | zero =>
      intro x hm hx hsp
      have hx1 : x = Int32.ofInt (-1) := by
        have h9 : x + nI 1 + Int32.ofInt (-1) = nI 0 + Int32.ofInt (-1) := by rw [hx]
        rw [Int32.add_assoc, show nI 1 + Int32.ofInt (-1) = 0 by decide, Int32.add_zero] at h9
        rw [h9]; decide
      subst hx1
      have hno : nxt n o = none := by unfold nxt; rw [← hsp]; rfl
      refine z_iload_n F dX10_isNext_7 rfl ?_
      refine z_if_lt (tgt := 34) F dX10_isNext_8 (by decide) (fun c => ?_) (fun c => ?_)
      · refine z_iload_n F dX10_isNext_34 rfl ?_
        refine z_if_ge (tgt := 40) F dX10_isNext_35 (by decide) (fun c2 => ?_) (fun c2 => ?_)
        · exact absurd c2 (by decide)
        · subst hQ
          refine z_iconst (v := nI 0) F dX10_isNext_38 (by decide) ?_
          exact z_zret F false dX10_isNext_39 rfl rfl ⟨V, rfl, eG.refl V, Or.inl ⟨hno, rfl⟩⟩
      · exact absurd (show Int32.ofInt (-1) < 0 by decide) c
    | succ m ih =>
      intro x hm hx hsp
      have hx1 : x = nI m := by
        have h9 : x + nI 1 + Int32.ofInt (-1) = nI (m + 1) + Int32.ofInt (-1) := by rw [hx]
        rw [Int32.add_assoc, show nI 1 + Int32.ofInt (-1) = 0 by decide, Int32.add_zero, nI_m1, nI_km1] at h9
        exact h9
      subst hx1
      have hmn : m < n := by omega
      have ho1 := (hO m hmn).2
      have ho2 := (hO (m + 1) hm).2
      obtain ⟨im, vm⟩ := ai V o hO m hmn
      obtain ⟨im1, vm1⟩ := ai V o hO (m + 1) hm
      simp only [dsc] at hsp
      refine z_iload_n F dX10_isNext_7 rfl ?_
      refine z_if_lt (tgt := 34) F dX10_isNext_8 (by decide) (fun c => ?_) (fun c => ?_)
      · exact absurd c (nI_lt0 (by omega))
      · refine z_aload_n F dX10_isNext_11 rfl ?_
        refine z_getR F dX10_isNext_12 gr_X10_35 (by assumption) (by assumption) ?_
        refine z_iload_n F dX10_isNext_15 rfl ?_
        refine z_iald F dX10_isNext_16 (by assumption) (by assumption) ?_
        refine z_ti vm ?_
        refine z_aload_n F dX10_isNext_17 rfl ?_
        refine z_getR F dX10_isNext_18 gr_X10_35 (by assumption) (by assumption) ?_
        refine z_iload_n F dX10_isNext_21 rfl ?_
        refine z_iconst (v := nI 1) F dX10_isNext_22 (by decide) ?_
        refine z_iadd F dX10_isNext_23 ?_
        refine z_ti (nI_add m 1) ?_
        refine z_iald F dX10_isNext_24 (by assumption) (by assumption) ?_
        refine z_ti vm1 ?_
        refine z_icmp_le (tgt := 34) F dX10_isNext_25 (by decide) (fun c2 => ?_) (fun c2 => ?_)
        · have h2' := (nI_leI (by omega) (by omega)).mp c2
          rw [if_neg (by omega)] at hsp
          have hnx : nxt n o = some (rvs n (m + 1) (n - 1) (swp o m (fk o m (n - 1)))) := by unfold nxt; rw [← hsp]
          refine z_iload_n F dX10_isNext_34 rfl ?_
          refine z_if_ge (tgt := 40) F dX10_isNext_35 (by decide) (fun c3 => ?_) (fun c3 => ?_)
          · refine z_aload_n F dX10_isNext_40 rfl ?_
            refine z_getI F dX10_isNext_41 gi_X10_44 (by assumption) ?_
            refine z_ti h2 ?_
            refine z_iconst (v := nI 1) F dX10_isNext_44 (by decide) ?_
            refine z_isub F dX10_isNext_45 ?_
            refine z_ti (pk_sub n1) ?_
            refine z_istore_n_2 F dX10_isNext_46 rfl ?_
            exact seek m (n - 1) (by omega) (by omega) (by omega) hnx
          · exact absurd (show (0 : Int32) ≤ nI m from nI_le (a := 0) (b := m) (by omega) (by omega)) c3
        · have h2' : o (m + 1) < o m := by
            rcases Nat.lt_or_ge (o (m + 1)) (o m) with z | z
            · exact z
            · exact absurd (nI_le z (by omega)) c2
          rw [if_pos h2'] at hsp
          refine z_iinc_1 F dX10_isNext_28 rfl ?_
          refine z_goto (tgt := 7) F dX10_isNext_31 (by decide) ?_
          exact ih _ (by omega) (by rw [Int32.add_assoc, show Int32.ofInt (-1) + nI 1 = 0 by decide, Int32.add_zero]) hsp
  refine z_aload_n F dX10_isNext_0 rfl ?_
  refine z_getI F dX10_isNext_1 gi_X10_44 (by assumption) ?_
  refine z_ti h2 ?_
  refine z_iconst (v := nI 2) F dX10_isNext_4 (by decide) ?_
  refine z_isub F dX10_isNext_5 ?_
  refine z_istore_n_1 F dX10_isNext_6 rfl ?_
  refine rise (n - 1) _ (by omega) ?_ rfl
  obtain ⟨m, rfl⟩ : ∃ m, n = m + 1 := ⟨n - 1, by omega⟩
  rw [← nI_add m 1, Int32.sub_eq_add_neg, Int32.add_assoc, Int32.add_assoc, show nI 1 + (-nI 2 + nI 1) = 0 by decide, Int32.add_zero]
  rfl
end MOD18
