/-! ===== Joint: isLow, tell ===== -/
def eucF (M b t : Nat) (n : Bool) : Option Fr := if t * t * 2 < M ∧ Nat.gcd b t = 1 then some (n && decide (b ≠ 0), b, t) else none
def eucR (M : Nat) : Nat → Nat → Nat → Nat → Nat → Bool → Option Fr
  | 0, _, b, _, t, n => eucF M b t n
  | f + 1, a, b, s, t, n => if b * b * 2 < M then eucF M b t n else eucR M f b (a % b) t (s + a / b * t) (!n)
/-- THE FRACTION TOLD by J and M -/
def recF (J M : Nat) : Option Fr := eucR M 100000 M J 0 1 false
theorem euc_step {a b s t M : Nat} (hb : 0 < b) (h : a * t + b * s = M) : b * (s + a / b * t) + a % b * t = M := by
  rw [← h]
  have e : a = b * (a / b) + a % b := (Nat.div_add_mod a b).symm
  calc b * (s + a / b * t) + a % b * t = (b * (a / b) + a % b) * t + b * s := by
        rw [Nat.mul_add, Nat.add_mul, ← Nat.mul_assoc]
        omega
    _ = a * t + b * s := by rw [← e]
theorem le_of_mulpos {a t M : Nat} (ha : 0 < a) (h : a * t ≤ M) : t ≤ M := Nat.le_trans (by rw [Nat.mul_comm]; exact Nat.le_mul_of_pos_right t ha) h
section JOINT2
variable {Γ : Gm} {Z : Hz} {V : Hv} {T : Nat → Fr} {X : Nat → Nat} {uo vo w jw : Nat → Nat} {A J q : Nat}
theorem sq_lt {x : Nat} (h : x < 4294967296 ^ 6) : x * x * 2 ^ 1 < 4294967296 ^ 16 := by
  have h1 := mul_lt12 h h
  have h2 : x * x * 2 ^ 1 < 4294967296 ^ 12 * 2 ^ 1 := Nat.mul_lt_mul_of_pos_right h1 (by decide)
  exact Nat.lt_trans h2 (by decide +kernel)
set_option maxRecDepth 100000 in
theorem c_isLow {o : Nat} (hK : KS Z uo vo w V T X) (hW : wInj Z) (hS : fS Z uo vo w) (hJ : jR Z uo vo w J A jw) (ho : xW Z uo vo w o) (hne : o ≠ jw 3) (hx : X o < 4294967296 ^ 6) : zCt Γ mX4_isLow 2 51 0 0 [.ref J, .ref o] (Z, V) (pZ (fun r S' => r = decide (X o * X o * 2 < X (jw 2)) ∧ kP Z uo vo w V T (va_up X (jw 3) (X o * X o * 2)) S')) := by
  refine zCt.of [some (.ref J), some (.ref o)] pn_X4_isLow rfl (Nat.le_of_ble_eq_true rfl) rfl (fun κ F => ?_)
  have b0 := hJ.1
  have r2 := hJ.r 2 (by decide) (by decide)
  have r3 := hJ.r 3 (by decide) (by decide)
  have w2 := hJ.w 2 (by decide) (by decide)
  have w3 := hJ.w 3 (by decide) (by decide)
  have o3 := hJ.o 3 (by decide) (by decide)
  have n23 := hJ.ne 2 3 (by decide) (by decide) (by decide) (by decide) (by decide)
  refine z_aload_n F dX4_isLow_0 rfl ?_
  refine z_getR F dX4_isLow_1 gr_X4_19 (by assumption) (by assumption) ?_
  refine z_aload_n F dX4_isLow_4 rfl ?_
  refine z_aload_n F dX4_isLow_5 rfl ?_
  refine z_cVv F (K_setProduct hK hW hS w3 (gW.mk ho) (gW.mk ho) hne hne (nl66 hx hx)) dX4_isLow_6 ml_X4_85 ok_X8_setProduct o3 (by decide) rfl rfl rfl (Nat.le_of_ble_eq_true rfl) (by decide) (by decide) (fun S' hS' => ?_)
  obtain ⟨V1, rfl, hK1, hF1⟩ := hS'
  have hs : va_up X (jw 3) (X o * X o) (jw 3) * 2 ^ 1 < 4294967296 ^ 16 := by rw [up_self]; exact sq_lt hx
  refine z_aload_n F dX4_isLow_9 rfl ?_
  refine z_getR F dX4_isLow_10 gr_X4_19 (by assumption) (by assumption) ?_
  refine z_iconst (v := nI 1) F dX4_isLow_13 (by decide) ?_
  refine z_cVv F (K_shl1 hK1 hW hS w3 hs) dX4_isLow_14 ml_X4_99 ok_X8_shiftLeft o3 (by decide) rfl rfl rfl (Nat.le_of_ble_eq_true rfl) (by decide) (by decide) (fun S' hS' => ?_)
  obtain ⟨V2, rfl, hK2, hF2⟩ := hS'
  rw [up_self, bx_uu, Nat.pow_one] at hK2
  refine z_aload_n F dX4_isLow_17 rfl ?_
  refine z_getR F dX4_isLow_18 gr_X4_19 (by assumption) (by assumption) ?_
  refine z_aload_n F dX4_isLow_21 rfl ?_
  refine z_getR F dX4_isLow_22 gr_X4_16 (by assumption) (by assumption) ?_
  refine z_cVi F (K_against hK2 hS (gW.mk w3) (gW.mk w2)) dX4_isLow_25 ml_X4_102 ok_X8_against o3 (by decide) rfl rfl rfl (Nat.le_of_ble_eq_true rfl) (by decide) (by decide) (fun r S' hr => ?_)
  obtain ⟨rfl, rfl⟩ := hr
  rw [up_self, up_ne _ _ n23]
  refine z_if_ge (tgt := 35) F dX4_isLow_28 (by decide) (fun c => ?_) (fun c => ?_)
  · have h : ¬ X o * X o * 2 < X (jw 2) := Nat.not_lt.mpr ((cmpI_ge _ _).mp c)
    refine z_iconst (v := nI 0) F dX4_isLow_35 (by decide) ?_
    exact z_zret F false dX4_isLow_36 rfl rfl ⟨(decide_eq_false h).symm, V2, rfl, hK2, hF1.trans hF2⟩
  · have h : X o * X o * 2 < X (jw 2) := Nat.lt_of_not_le (fun z => c ((cmpI_ge _ _).mpr z))
    refine z_iconst (v := nI 1) F dX4_isLow_31 (by decide) ?_
    refine z_goto (tgt := 36) F dX4_isLow_32 (by decide) ?_
    exact z_zret F true dX4_isLow_36 rfl rfl ⟨(decide_eq_true h).symm, V2, rfl, hK2, hF1.trans hF2⟩
/-- only Joint's scratch moves -/
def xJ (jw : Nat → Nat) (X X' : Nat → Nat) : Prop := ∀ o, (∀ k, 3 ≤ k → k ≤ 8 → o ≠ jw k) → X' o = X o
theorem xJ.up {jw X X' : Nat → Nat} {k x : Nat} (h : xJ jw X X') (h1 : 3 ≤ k) (h8 : k ≤ 8) : xJ jw X (va_up X' (jw k) x) := fun o ho => by rw [up_ne _ _ (ho k h1 h8)]; exact h o ho
theorem jR.all {kb kr kl kf : Nat} (hJ : jR Z uo vo w J A jw) (hkb : (kb = 5 ∧ kr = 6) ∨ (kb = 6 ∧ kr = 5)) (hkl : (kl = 7 ∧ kf = 8) ∨ (kl = 8 ∧ kf = 7)) : (xW Z uo vo w (jw kb) ∧ xW Z uo vo w (jw kr) ∧ xW Z uo vo w (jw kl) ∧ xW Z uo vo w (jw kf) ∧ zIn Z (jw kb) 7 ∧ zIn Z (jw kl) 7) ∧ (jw kb ≠ jw 3 ∧ jw kr ≠ jw 3 ∧ jw kl ≠ jw 3 ∧ jw kf ≠ jw 3 ∧ jw kb ≠ jw 4 ∧ jw kr ≠ jw 4 ∧ jw kl ≠ jw 4 ∧ jw kf ≠ jw 4 ∧ jw 4 ≠ jw 3) ∧ (jw kb ≠ jw kr ∧ jw kl ≠ jw kf ∧ jw kb ≠ jw kl ∧ jw kb ≠ jw kf ∧ jw kr ≠ jw kl ∧ jw kr ≠ jw kf) ∧ (kr = 5 ∨ kr = 6) ∧ (kf = 7 ∨ kf = 8) ∧ (3 ≤ kb ∧ kb ≤ 8 ∧ 3 ≤ kl ∧ kl ≤ 8) ∧ ((kr = 5 ∧ kb = 6) ∨ (kr = 6 ∧ kb = 5)) ∧ ((kf = 7 ∧ kl = 8) ∨ (kf = 8 ∧ kl = 7)) := by
  have n := fun i j h1 h2 h3 h4 h5 => hJ.ne i j h1 h2 h3 h4 h5
  have b : (1 ≤ kb ∧ kb ≤ 8 ∧ 1 ≤ kr ∧ kr ≤ 8 ∧ 1 ≤ kl ∧ kl ≤ 8 ∧ 1 ≤ kf ∧ kf ≤ 8) ∧ (kb ≠ 3 ∧ kr ≠ 3 ∧ kl ≠ 3 ∧ kf ≠ 3 ∧ kb ≠ 4 ∧ kr ≠ 4 ∧ kl ≠ 4 ∧ kf ≠ 4) ∧ (kb ≠ kr ∧ kl ≠ kf ∧ kb ≠ kl ∧ kb ≠ kf ∧ kr ≠ kl ∧ kr ≠ kf) := by omega
  obtain ⟨⟨b1, b2, b3, b4, b5, b6, b7, b8⟩, ⟨c1, c2, c3, c4, c5, c6, c7, c8⟩, e1, e2, e3, e4, e5, e6⟩ := b
  exact ⟨⟨hJ.w kb b1 b2, hJ.w kr b3 b4, hJ.w kl b5 b6, hJ.w kf b7 b8, hJ.o kb b1 b2, hJ.o kl b5 b6⟩, ⟨n kb 3 b1 b2 (by decide) (by decide) c1, n kr 3 b3 b4 (by decide) (by decide) c2, n kl 3 b5 b6 (by decide) (by decide) c3, n kf 3 b7 b8 (by decide) (by decide) c4, n kb 4 b1 b2 (by decide) (by decide) c5, n kr 4 b3 b4 (by decide) (by decide) c6, n kl 4 b5 b6 (by decide) (by decide) c7, n kf 4 b7 b8 (by decide) (by decide) c8, n 4 3 (by decide) (by decide) (by decide) (by decide) (by decide)⟩, ⟨n kb kr b1 b2 b3 b4 e1, n kl kf b5 b6 b7 b8 e2, n kb kl b1 b2 b5 b6 e3, n kb kf b1 b2 b7 b8 e4, n kr kl b3 b4 b5 b6 e5, n kr kf b3 b4 b7 b8 e6⟩, by omega, by omega, by omega, by omega, by omega⟩
theorem euc_bounds {a b s t M : Nat} (ht1 : 1 ≤ t) (hba : b < a) (hinv : a * t + b * s = M) : a ≤ M ∧ t ≤ M ∧ b ≤ M := by
  have h1 : a * 1 ≤ a * t := Nat.mul_le_mul_left a ht1
  exact ⟨by omega, le_of_mulpos (a := a) (by omega) (by omega), by omega⟩
theorem euc_next {a b s t M : Nat} (ht1 : 1 ≤ t) (hba : b < a) (hb0 : 0 < b) (hinv2 : b * (s + a / b * t) + a % b * t = M) : s + a / b * t ≤ M ∧ 1 ≤ s + a / b * t := by
  have h9 : 1 ≤ a / b := (Nat.le_div_iff_mul_le hb0).mpr (by omega)
  have h8 : 1 * 1 ≤ a / b * t := Nat.mul_le_mul h9 ht1
  exact ⟨le_of_mulpos hb0 (by omega), by omega⟩
set_option maxRecDepth 100000 in
set_option maxHeartbeats 2000000 in
theorem c_tell (hK : KS Z uo vo w V T X) (hW : wInj Z) (hA : aR Z A w) (hS : fS Z uo vo w) (hJ : jR Z uo vo w J A jw) (hq : zIn Z q 3) (hm : X (jw 2) < 4294967296 ^ 6) (hn : X (jw 1) < X (jw 2)) : zCt Γ mX4_tell 5 137 0 0 [.ref J, .ref q] (Z, V) (pZ (fun r S' => ∃ V' T' X', S' = (Z, V') ∧ KS Z uo vo w V' T' X' ∧ eF Z V V' ∧ xJ jw X X' ∧ ((recF (X (jw 1)) (X (jw 2)) = none ∧ r = false ∧ T' = T) ∨ ∃ x, recF (X (jw 1)) (X (jw 2)) = some x ∧ r = true ∧ T' = va_up T q x))) := by
  refine zCt.of [some (.ref J), some (.ref q), none, none, none, none, none, none, none] pn_X4_tell rfl (Nat.le_of_ble_eq_true rfl) rfl (fun κ F => ?_)
  have b0 := hJ.1
  have bA := hJ.2.1
  have r1 := hJ.r 1 (by decide) (by decide)
  have r2 := hJ.r 2 (by decide) (by decide)
  have r3 := hJ.r 3 (by decide) (by decide)
  have r4 := hJ.r 4 (by decide) (by decide)
  have r5 := hJ.r 5 (by decide) (by decide)
  have r6 := hJ.r 6 (by decide) (by decide)
  have r7 := hJ.r 7 (by decide) (by decide)
  have r8 := hJ.r 8 (by decide) (by decide)
  have w3 := hJ.w 3 (by decide) (by decide)
  have w4 := hJ.w 4 (by decide) (by decide)
  have o3 := hJ.o 3 (by decide) (by decide)
  obtain ⟨M, hM⟩ : ∃ M, M = X (jw 2) := ⟨_, rfl⟩
  obtain ⟨N, hN⟩ : ∃ N, N = X (jw 1) := ⟨_, rfl⟩
  rw [← hM] at hm hn
  rw [← hN] at hn
  rw [← hM, ← hN]
  generalize hQ : zQ Γ κ (pZ (fun r S' => ∃ V' T' X', S' = (Z, V') ∧ KS Z uo vo w V' T' X' ∧ eF Z V V' ∧ xJ jw X X' ∧ ((recF N M = none ∧ r = false ∧ T' = T) ∨ ∃ x, recF N M = some x ∧ r = true ∧ T' = va_up T q x))) 0 0 = Q
  -- what stands at the loop's head, by the numbers of the fields
  have inv : ∀ {X1 : Nat → Nat}, xJ jw X X1 → X1 (jw 2) = M := fun h => (h (jw 2) (fun k h1 h2 => hJ.ne 2 k (by decide) (by decide) (by omega) h2 (by omega))).trans hM.symm
  have fin : ∀ (V1 : Hv) (X1 : Nat → Nat) (kb kr kl kf a b s t : Nat) (n : Bool) (l7 l8 : Option Value), (kr = 5 ∨ kr = 6) → (kf = 7 ∨ kf = 8) → KS Z uo vo w V1 T X1 → eF Z V V1 → xJ jw X X1 → X1 (jw kr) = b → X1 (jw kf) = t → 1 ≤ t → b ≤ M → t ≤ M → eucF M b t n = recF N M → zX Γ κ (Z, V1) 0 0 Q 144 [some (.ref J), some (.ref q), some (.ref (jw kb)), some (.ref (jw kr)), some (.ref (jw kl)), some (.ref (jw kf)), some (.int (zb n)), l7, l8] [] := by
    intro V1 X1 kb kr kl kf a b s t n l7 l8 hkr hkf hK1 hF1 hx1 hb ht ht1 hbM htM hsp
    have wf := hJ.w kf (by omega) (by omega)
    have wr := hJ.w kr (by omega) (by omega)
    have nf3 := hJ.ne kf 3 (by omega) (by omega) (by decide) (by decide) (by omega)
    have nr3 := hJ.ne kr 3 (by omega) (by omega) (by decide) (by decide) (by omega)
    have ht6 : X1 (jw kf) < 4294967296 ^ 6 := by rw [ht]; exact Nat.lt_of_le_of_lt htM hm
    have bad : ∀ (V2 : Hv) (X2 : Nat → Nat) (lv : Lv), KS Z uo vo w V2 T X2 → eF Z V V2 → xJ jw X X2 → recF N M = none → zX Γ κ (Z, V2) 0 0 Q 166 lv [] := by
      intro V2 X2 lv hK2 hF2 hx2 hn
      subst hQ
      refine z_iconst (v := nI 0) F dX4_tell_166 (by decide) ?_
      exact z_zret F false dX4_tell_167 rfl rfl ⟨V2, T, X2, rfl, hK2, hF2, hx2, Or.inl ⟨hn, rfl, rfl⟩⟩
    refine z_aload_n F dX4_tell_144 rfl ?_
    refine z_aload F dX4_tell_145 rfl ?_
    refine z_cVz F (c_isLow hK1 hW hS hJ wf nf3 ht6) dX4_tell_147 ml_X4_77 ok_X4_isLow b0 (by decide) rfl rfl rfl (Nat.le_of_ble_eq_true rfl) (by decide) (by decide) (fun r S' hr => ?_)
    obtain ⟨rfl, V2, rfl, hK2, hF2⟩ := hr
    rw [ht] at hK2
    rw [inv hx1, ht]
    have hx2 : xJ jw X (va_up X1 (jw 3) (t * t * 2)) := hx1.up (by decide) (by decide)
    generalize hX2 : va_up X1 (jw 3) (t * t * 2) = X2 at hK2 hx2
    have x2r : X2 (jw kr) = b := by rw [← hX2, up_ne _ _ nr3, hb]
    have x2f : X2 (jw kf) = t := by rw [← hX2, up_ne _ _ nf3, ht]
    refine z_if_eq (tgt := 166) F dX4_tell_150 (by decide) (fun c => ?_) (fun c => ?_)
    · have h : ¬ t * t * 2 < M := fun z => zb_f c (decide_eq_true z)
      refine bad V2 X2 _ hK2 (hF1.trans hF2) hx2 ?_
      rw [← hsp]
      unfold eucF
      rw [if_neg (fun z => h z.1)]
    · have h : t * t * 2 < M := of_decide_eq_true (zb_t c)
      have g1 : gW Z uo vo w T X2 (jw kr) b := Or.inl ⟨wr, x2r⟩
      have g2 : gW Z uo vo w T X2 (jw kf) t := Or.inl ⟨wf, x2f⟩
      refine z_aload_n F dX4_tell_153 rfl ?_
      refine z_getR F dX4_tell_154 gr_X4_37 (by assumption) (by assumption) ?_
      refine z_aload_n F dX4_tell_157 rfl ?_
      refine z_aload F dX4_tell_158 rfl ?_
      refine z_cVz F (K_nothing hK2 hW hA hS g1 g2 (lt14 (Nat.lt_of_le_of_lt hbM hm) (by decide)) (lt14 (Nat.lt_of_le_of_lt htM hm) (by decide))) dX4_tell_160 ml_X4_89 ok_X0_haveNothingCommon hA.1 (by decide) rfl rfl rfl (Nat.le_of_ble_eq_true rfl) (by decide) (by decide) (fun r S' hr => ?_)
      obtain ⟨rfl, V3, rfl, hK3, hF3⟩ := hr
      refine z_if_ne (tgt := 168) F dX4_tell_163 (by decide) (fun c2 => ?_) (fun c2 => ?_)
      · have hg : Nat.gcd b t = 1 := of_decide_eq_true (zb_t c2)
        have hres : recF N M = some (n && decide (b ≠ 0), b, t) := by
          rw [← hsp]
          unfold eucF
          rw [if_pos ⟨h, hg⟩]
        have hok : fok (n && decide (X2 (jw kr) ≠ 0), X2 (jw kr), X2 (jw kf)) := by
          rw [x2r, x2f]
          refine ⟨⟨ht1, hg, fun z => ?_⟩, Nat.lt_of_le_of_lt hbM hm, Nat.lt_of_le_of_lt htM hm⟩
          simp only at z
          rw [z]
          simp
        refine z_aload_n F dX4_tell_168 rfl ?_
        refine z_iload F dX4_tell_169 rfl ?_
        refine z_aload_n F dX4_tell_171 rfl ?_
        refine z_aload F dX4_tell_172 rfl ?_
        refine z_cVv F (K_fSet (s := n) hK3 hW hS hq wr wf hok) dX4_tell_174 ml_X4_93 ok_X3_set hq (by decide) rfl rfl rfl (Nat.le_of_ble_eq_true rfl) (by decide) (by decide) (fun S' hS' => ?_)
        obtain ⟨V4, rfl, hK4, hF4⟩ := hS'
        rw [x2r, x2f] at hK4
        subst hQ
        refine z_iconst (v := nI 1) F dX4_tell_177 (by decide) ?_
        exact z_zret F true dX4_tell_178 rfl rfl ⟨V4, _, X2, rfl, hK4, ((hF1.trans hF2).trans hF3).trans hF4, hx2, Or.inr ⟨_, hres, rfl, rfl⟩⟩
      · have hg : ¬ Nat.gcd b t = 1 := fun z => zb_f c2 (decide_eq_true z)
        refine bad V3 X2 _ hK3 ((hF1.trans hF2).trans hF3) hx2 ?_
        rw [← hsp]
        unfold eucF
        rw [if_neg (fun z => hg z.2)]
  have loop : ∀ (d i : Nat) (V1 : Hv) (X1 : Nat → Nat) (kb kr kl kf a b s t : Nat) (n : Bool) (l8 : Option Value), i + d = 100000 → ((kb = 5 ∧ kr = 6) ∨ (kb = 6 ∧ kr = 5)) → ((kl = 7 ∧ kf = 8) ∨ (kl = 8 ∧ kf = 7)) → KS Z uo vo w V1 T X1 → eF Z V V1 → xJ jw X X1 → X1 (jw kb) = a → X1 (jw kr) = b → X1 (jw kl) = s → X1 (jw kf) = t → 1 ≤ t → b < a → a * t + b * s = M → eucR M d a b s t n = recF N M → zX Γ κ (Z, V1) 0 0 Q 56 [some (.ref J), some (.ref q), some (.ref (jw kb)), some (.ref (jw kr)), some (.ref (jw kl)), some (.ref (jw kf)), some (.int (zb n)), some (.int (nI i)), l8] [] := by
    intro d
    induction d with
    | zero =>
      intro i V1 X1 kb kr kl kf a b s t n l8 hi hkb hkl hK1 hF1 hx1 ha hb hs ht ht1 hba hinv hsp
      obtain ⟨haM, htM, hbM⟩ := euc_bounds ht1 hba hinv
      obtain ⟨⟨wb, wr, wl, wf, ob, ol⟩, ⟨nb3, nr3, nl3, nf3, nb4, nr4, nl4, nf4, n43⟩, ⟨nbr, nlf, nbl, nbf, nrl, nrf⟩, kr56, kf78, ⟨kb3, kb8, kl3, kl8⟩, hkb', hkl'⟩ := hJ.all hkb hkl
      refine z_iload F dX4_tell_56 rfl ?_
      refine z_ldc (v := 100000) F dX4_tell_58 cn_X4_76 ?_
      refine z_ti (show (100000 : Int32) = nI 100000 from rfl) ?_
      refine z_icmp_ge (tgt := 144) F dX4_tell_60 (by decide) (fun c => ?_) (fun c => ?_)
      · exact fin V1 X1 kb kr kl kf a b s t n _ _ kr56 kf78 hK1 hF1 hx1 hb ht ht1 hbM htM hsp
      · exact absurd (nI_le (a := 100000) (by omega) (by omega)) c
    | succ d ih =>
      intro i V1 X1 kb kr kl kf a b s t n l8 hi hkb hkl hK1 hF1 hx1 ha hb hs ht ht1 hba hinv hsp
      obtain ⟨haM, htM, hbM⟩ := euc_bounds ht1 hba hinv
      obtain ⟨⟨wb, wr, wl, wf, ob, ol⟩, ⟨nb3, nr3, nl3, nf3, nb4, nr4, nl4, nf4, n43⟩, ⟨nbr, nlf, nbl, nbf, nrl, nrf⟩, kr56, kf78, ⟨kb3, kb8, kl3, kl8⟩, hkb', hkl'⟩ := hJ.all hkb hkl
      have ha6 : a < 4294967296 ^ 6 := Nat.lt_of_le_of_lt haM hm
      have hb6 : b < 4294967296 ^ 6 := Nat.lt_trans hba ha6
      have ht6 : t < 4294967296 ^ 6 := Nat.lt_of_le_of_lt htM hm
      simp only [eucR] at hsp
      refine z_iload F dX4_tell_56 rfl ?_
      refine z_ldc (v := 100000) F dX4_tell_58 cn_X4_76 ?_
      refine z_ti (show (100000 : Int32) = nI 100000 from rfl) ?_
      refine z_icmp_ge (tgt := 144) F dX4_tell_60 (by decide) (fun c => ?_) (fun c => ?_)
      · exact absurd ((nI_leI (a := 100000) (by omega) (by omega)).mp c) (by omega)
      · refine z_aload_n F dX4_tell_63 rfl ?_
        refine z_aload_n F dX4_tell_64 rfl ?_
        refine z_cVz F (c_isLow hK1 hW hS hJ wr nr3 (by rw [hb]; exact hb6)) dX4_tell_65 ml_X4_77 ok_X4_isLow b0 (by decide) rfl rfl rfl (Nat.le_of_ble_eq_true rfl) (by decide) (by decide) (fun r S' hr => ?_)
        obtain ⟨rfl, V2, rfl, hK2, hF2⟩ := hr
        rw [hb] at hK2
        rw [inv hx1, hb]
        have hx2 : xJ jw X (va_up X1 (jw 3) (b * b * 2)) := hx1.up (by decide) (by decide)
        generalize hX2 : va_up X1 (jw 3) (b * b * 2) = X2 at hK2 hx2
        have x2b : X2 (jw kb) = a := by rw [← hX2, up_ne _ _ nb3, ha]
        have x2r : X2 (jw kr) = b := by rw [← hX2, up_ne _ _ nr3, hb]
        have x2l : X2 (jw kl) = s := by rw [← hX2, up_ne _ _ nl3, hs]
        have x2f : X2 (jw kf) = t := by rw [← hX2, up_ne _ _ nf3, ht]
        refine z_if_ne (tgt := 144) F dX4_tell_68 (by decide) (fun c2 => ?_) (fun c2 => ?_)
        · rw [if_pos (of_decide_eq_true (zb_t c2))] at hsp
          exact fin V2 X2 kb kr kl kf a b s t n _ _ kr56 kf78 hK2 (hF1.trans hF2) hx2 x2r x2f ht1 hbM htM hsp
        · have hnl : ¬ b * b * 2 < M := fun z => zb_f c2 (decide_eq_true z)
          rw [if_neg hnl] at hsp
          have hb0 : 0 < b := by
            rcases Nat.eq_zero_or_pos b with z | z
            · exact absurd (show b * b * 2 < M by rw [z]; exact Nat.lt_of_le_of_lt (Nat.zero_le _) hn) hnl
            · exact z
          have hinv2 := euc_step hb0 hinv
          obtain ⟨ht2, ht1'⟩ := euc_next ht1 hba hb0 hinv2
          have hq6 : a / b < 4294967296 ^ 6 := div_lt6 b ha6
          have g2 : gW Z uo vo w T X2 (jw kr) b := Or.inl ⟨wr, x2r⟩
          refine z_aload_n F dX4_tell_71 rfl ?_
          refine z_getR F dX4_tell_72 gr_X4_37 (by assumption) (by assumption) ?_
          refine z_aload_n F dX4_tell_75 rfl ?_
          refine z_aload_n F dX4_tell_76 rfl ?_
          refine z_aload_n F dX4_tell_77 rfl ?_
          refine z_getR F dX4_tell_78 gr_X4_22 (by assumption) (by assumption) ?_
          refine z_cVv F (K_divide hK2 hW hA hS wb g2 w4 nbr nb4 nr4 (by rw [x2b]; exact lt14 ha6 (by decide))) dX4_tell_81 ml_X4_81 ok_X0_divide hA.1 (by decide) rfl rfl rfl (Nat.le_of_ble_eq_true rfl) (by decide) (by decide) (fun S' hS' => ?_)
          obtain ⟨V3, rfl, hK3, hF3⟩ := hS'
          rw [x2b] at hK3
          have hx3 : xJ jw X (va_up (va_up X2 (jw kb) (a % b)) (jw 4) (a / b)) := (hx2.up kb3 kb8).up (by decide) (by decide)
          generalize hX3 : va_up (va_up X2 (jw kb) (a % b)) (jw 4) (a / b) = X3 at hK3 hx3
          have x3b : X3 (jw kb) = a % b := by rw [← hX3, up_ne _ _ nb4, up_self]
          have x3r : X3 (jw kr) = b := by rw [← hX3, up_ne _ _ nr4, up_ne _ _ nbr.symm, x2r]
          have x3l : X3 (jw kl) = s := by rw [← hX3, up_ne _ _ nl4, up_ne _ _ nbl.symm, x2l]
          have x3f : X3 (jw kf) = t := by rw [← hX3, up_ne _ _ nf4, up_ne _ _ nbf.symm, x2f]
          have x34 : X3 (jw 4) = a / b := by rw [← hX3, up_self]
          have g4 : gW Z uo vo w T X3 (jw 4) (a / b) := Or.inl ⟨w4, x34⟩
          have gf : gW Z uo vo w T X3 (jw kf) t := Or.inl ⟨wf, x3f⟩
          refine z_aload_n F dX4_tell_84 rfl ?_
          refine z_getR F dX4_tell_85 gr_X4_19 (by assumption) (by assumption) ?_
          refine z_aload_n F dX4_tell_88 rfl ?_
          refine z_getR F dX4_tell_89 gr_X4_22 (by assumption) (by assumption) ?_
          refine z_aload F dX4_tell_92 rfl ?_
          refine z_cVv F (K_setProduct hK3 hW hS w3 g4 gf n43 nf3 (nl66 hq6 ht6)) dX4_tell_94 ml_X4_85 ok_X8_setProduct o3 (by decide) rfl rfl rfl (Nat.le_of_ble_eq_true rfl) (by decide) (by decide) (fun S' hS' => ?_)
          obtain ⟨V4, rfl, hK4, hF4⟩ := hS'
          have hx4 : xJ jw X (va_up X3 (jw 3) (a / b * t)) := hx3.up (by decide) (by decide)
          generalize hX4 : va_up X3 (jw 3) (a / b * t) = X4 at hK4 hx4
          have x4b : X4 (jw kb) = a % b := by rw [← hX4, up_ne _ _ nb3, x3b]
          have x4r : X4 (jw kr) = b := by rw [← hX4, up_ne _ _ nr3, x3r]
          have x4l : X4 (jw kl) = s := by rw [← hX4, up_ne _ _ nl3, x3l]
          have x4f : X4 (jw kf) = t := by rw [← hX4, up_ne _ _ nf3, x3f]
          have g3 : gW Z uo vo w T X4 (jw 3) (a / b * t) := Or.inl ⟨w3, by rw [← hX4, up_self]⟩
          have hsum : X4 (jw kl) + a / b * t < 4294967296 ^ 16 := by
            rw [x4l]
            exact Nat.lt_of_le_of_lt ht2 (Nat.lt_of_lt_of_le hm (Nat.pow_le_pow_right (by decide) (by decide)))
          refine z_aload F dX4_tell_97 rfl ?_
          refine z_aload_n F dX4_tell_99 rfl ?_
          refine z_getR F dX4_tell_100 gr_X4_19 (by assumption) (by assumption) ?_
          refine z_cVv F (K_increase hK4 hW hS wl g3 nl3.symm hsum) dX4_tell_103 ml_X4_71 ok_X8_increase ol (by decide) rfl rfl rfl (Nat.le_of_ble_eq_true rfl) (by decide) (by decide) (fun S' hS' => ?_)
          obtain ⟨V5, rfl, hK5, hF5⟩ := hS'
          rw [x4l] at hK5
          have hx5 : xJ jw X (va_up X4 (jw kl) (s + a / b * t)) := hx4.up kl3 kl8
          generalize hX5 : va_up X4 (jw kl) (s + a / b * t) = X5 at hK5 hx5
          have x5b : X5 (jw kb) = a % b := by rw [← hX5, up_ne _ _ nbl, x4b]
          have x5r : X5 (jw kr) = b := by rw [← hX5, up_ne _ _ nrl, x4r]
          have x5l : X5 (jw kl) = s + a / b * t := by rw [← hX5, up_self]
          have x5f : X5 (jw kf) = t := by rw [← hX5, up_ne _ _ nlf.symm, x4f]
          have hF := (((hF1.trans hF2).trans hF3).trans hF4).trans hF5
          have next := ih (i + 1) V5 X5 kr kb kf kl b (a % b) t (s + a / b * t) (!n) (some (.ref (jw kl))) (by omega) hkb' hkl' hK5 hF hx5 x5r x5b x5f x5l ht1' (Nat.mod_lt _ hb0) hinv2 hsp
          refine z_aload_n F dX4_tell_106 rfl ?_
          refine z_astore_8 F dX4_tell_107 rfl ?_
          refine z_aload_n F dX4_tell_109 rfl ?_
          refine z_astore_n_2 F dX4_tell_110 rfl ?_
          refine z_aload F dX4_tell_111 rfl ?_
          refine z_astore_n_3 F dX4_tell_113 rfl ?_
          refine z_aload F dX4_tell_114 rfl ?_
          refine z_astore_8 F dX4_tell_116 rfl ?_
          refine z_aload F dX4_tell_118 rfl ?_
          refine z_astore_4 F dX4_tell_120 rfl ?_
          refine z_aload F dX4_tell_122 rfl ?_
          refine z_astore_5 F dX4_tell_124 rfl ?_
          refine z_iload F dX4_tell_126 rfl ?_
          refine z_if_ne (tgt := 135) F dX4_tell_128 (by decide) (fun c3 => ?_) (fun c3 => ?_)
          · cases n with
            | false => exact absurd rfl c3
            | true =>
              refine z_iconst (v := nI 0) F dX4_tell_135 (by decide) ?_
              refine z_istore_6 F dX4_tell_136 rfl ?_
              refine z_iinc_7 F dX4_tell_138 rfl ?_
              refine z_goto (tgt := 56) F dX4_tell_141 (by decide) ?_
              rw [show nI i + Int32.ofInt 1 = nI (i + 1) from nI_1 i]
              exact next
          · cases n with
            | false =>
              refine z_iconst (v := nI 1) F dX4_tell_131 (by decide) ?_
              refine z_goto (tgt := 136) F dX4_tell_132 (by decide) ?_
              refine z_istore_6 F dX4_tell_136 rfl ?_
              refine z_iinc_7 F dX4_tell_138 rfl ?_
              refine z_goto (tgt := 56) F dX4_tell_141 (by decide) ?_
              rw [show nI i + Int32.ofInt 1 = nI (i + 1) from nI_1 i]
              exact next
            | true => exact absurd c3 (by decide)
  have w1 := hJ.w 1 (by decide) (by decide)
  have w2 := hJ.w 2 (by decide) (by decide)
  have w5 := hJ.w 5 (by decide) (by decide)
  have w6 := hJ.w 6 (by decide) (by decide)
  have w7 := hJ.w 7 (by decide) (by decide)
  have w8 := hJ.w 8 (by decide) (by decide)
  have o5 := hJ.o 5 (by decide) (by decide)
  have o6 := hJ.o 6 (by decide) (by decide)
  have o7 := hJ.o 7 (by decide) (by decide)
  have o8 := hJ.o 8 (by decide) (by decide)
  have nn := fun i j h1 h2 h3 h4 h5 => hJ.ne i j h1 h2 h3 h4 h5
  refine z_aload_n F dX4_tell_0 rfl ?_
  refine z_getR F dX4_tell_1 gr_X4_25 (by assumption) (by assumption) ?_
  refine z_astore_n_2 F dX4_tell_4 rfl ?_
  refine z_aload_n F dX4_tell_5 rfl ?_
  refine z_getR F dX4_tell_6 gr_X4_28 (by assumption) (by assumption) ?_
  refine z_astore_n_3 F dX4_tell_9 rfl ?_
  refine z_aload_n F dX4_tell_10 rfl ?_
  refine z_getR F dX4_tell_11 gr_X4_31 (by assumption) (by assumption) ?_
  refine z_astore_4 F dX4_tell_14 rfl ?_
  refine z_aload_n F dX4_tell_16 rfl ?_
  refine z_getR F dX4_tell_17 gr_X4_34 (by assumption) (by assumption) ?_
  refine z_astore_5 F dX4_tell_20 rfl ?_
  refine z_aload_n F dX4_tell_22 rfl ?_
  refine z_aload_n F dX4_tell_23 rfl ?_
  refine z_getR F dX4_tell_24 gr_X4_16 (by assumption) (by assumption) ?_
  refine z_cVv F (K_wcopy hK hW hS w5 (gW.mk w2)) dX4_tell_27 ml_X4_53 ok_X8_copy o5 (by decide) rfl rfl rfl (Nat.le_of_ble_eq_true rfl) (by decide) (by decide) (fun S' hS' => ?_)
  obtain ⟨V1, rfl, hK1, hF1⟩ := hS'
  refine z_aload_n F dX4_tell_30 rfl ?_
  refine z_aload_n F dX4_tell_31 rfl ?_
  refine z_getR F dX4_tell_32 gr_X4_10 (by assumption) (by assumption) ?_
  refine z_cVv F (K_wcopy hK1 hW hS w6 (gW.mk w1)) dX4_tell_35 ml_X4_53 ok_X8_copy o6 (by decide) rfl rfl rfl (Nat.le_of_ble_eq_true rfl) (by decide) (by decide) (fun S' hS' => ?_)
  obtain ⟨V2, rfl, hK2, hF2⟩ := hS'
  rw [up_ne _ _ (nn 1 5 (by decide) (by decide) (by decide) (by decide) (by decide)), ← hM, ← hN] at hK2
  refine z_aload F dX4_tell_38 rfl ?_
  refine z_lconst (v := lN 0) F dX4_tell_40 (by decide) ?_
  refine z_cVv F (K_setBits (n := 0) hK2 hW hS w7 (by decide)) dX4_tell_41 ml_X4_41 ok_X8_setBits o7 (by decide) rfl rfl rfl (Nat.le_of_ble_eq_true rfl) (by decide) (by decide) (fun S' hS' => ?_)
  obtain ⟨V3, rfl, hK3, hF3⟩ := hS'
  refine z_aload F dX4_tell_44 rfl ?_
  refine z_lconst (v := lN 1) F dX4_tell_46 (by decide) ?_
  refine z_cVv F (K_setBits (n := 1) hK3 hW hS w8 (by decide)) dX4_tell_47 ml_X4_41 ok_X8_setBits o8 (by decide) rfl rfl rfl (Nat.le_of_ble_eq_true rfl) (by decide) (by decide) (fun S' hS' => ?_)
  obtain ⟨V4, rfl, hK4, hF4⟩ := hS'
  refine z_iconst (v := nI 0) F dX4_tell_50 (by decide) ?_
  refine z_istore_6 F dX4_tell_51 rfl ?_
  refine z_iconst (v := nI 0) F dX4_tell_53 (by decide) ?_
  refine z_istore_7 F dX4_tell_54 rfl ?_
  have hx4 : xJ jw X (va_up (va_up (va_up (va_up X (jw 5) M) (jw 6) N) (jw 7) 0) (jw 8) 1) := ((((show xJ jw X X from fun _ _ => rfl).up (by decide) (by decide)).up (by decide) (by decide)).up (by decide) (by decide)).up (by decide) (by decide)
  have n56 := nn 5 6 (by decide) (by decide) (by decide) (by decide) (by decide)
  have n57 := nn 5 7 (by decide) (by decide) (by decide) (by decide) (by decide)
  have n58 := nn 5 8 (by decide) (by decide) (by decide) (by decide) (by decide)
  have n67 := nn 6 7 (by decide) (by decide) (by decide) (by decide) (by decide)
  have n68 := nn 6 8 (by decide) (by decide) (by decide) (by decide) (by decide)
  have n78 := nn 7 8 (by decide) (by decide) (by decide) (by decide) (by decide)
  exact loop 100000 0 V4 _ 5 6 7 8 M N 0 1 false none (Nat.zero_add _) (Or.inl ⟨rfl, rfl⟩) (Or.inl ⟨rfl, rfl⟩) hK4 (((hF1.trans hF2).trans hF3).trans hF4) hx4 (by rw [up_ne _ _ n58, up_ne _ _ n57, up_ne _ _ n56, up_self]) (by rw [up_ne _ _ n68, up_ne _ _ n67, up_self]) (by rw [up_ne _ _ n78, up_self]) (up_self _ _ _) (Nat.le_refl _) hn (by rw [Nat.mul_one, Nat.mul_zero, Nat.add_zero]) (by unfold recF; exact Eq.refl _)
end JOINT2
