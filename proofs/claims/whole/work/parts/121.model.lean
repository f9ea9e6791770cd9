/-! ===== FractionRowsModel: isSmall, recover ===== -/
theorem bl_mod {a b : Nat} (hb : 0 < b) (hba : b < a) : bl (a % b) + 1 ≤ bl a := by
  have h1 := Nat.mod_lt a hb
  have h2 := Nat.div_add_mod a b
  have hq : 1 ≤ a / b := Nat.div_pos (Nat.le_of_lt hba) hb
  have h3 : b * 1 ≤ b * (a / b) := Nat.mul_le_mul_left b hq
  have h4 : 2 * (a % b) < a := by omega
  have h5 : a < 2 ^ bl a := bl_le.mp (Nat.le_refl _)
  have h6 : bl a ≠ 0 := fun z => by
    rw [z] at h5
    omega
  obtain ⟨m, hm⟩ : ∃ m, bl a = m + 1 := ⟨bl a - 1, by omega⟩
  rw [hm, Nat.pow_succ] at h5
  have h7 : bl (a % b) ≤ m := bl_le.mpr (by omega)
  omega
theorem top_0 {t x : Nat} (ht : t ≤ 16) (h1 : x < 268435456 ^ t) (h2 : 0 < t → 268435456 ^ (t - 1) ≤ x) : nI t ≤ 0 ↔ x = 0 := by
  rw [nI_le0 (by omega)]
  constructor
  · intro z
    rw [z, Nat.pow_zero] at h1
    omega
  · intro z
    rcases Nat.eq_zero_or_pos t with h | h
    · exact h
    · have := Nat.lt_of_lt_of_le (dgp (t - 1)) (h2 h)
      omega
def recO (s : St) (R : Option Fr) : St × Int32 := match R with
  | none => (s, -6)
  | some x => keepF s x
theorem opRec_eq (s : St) : opRec s = if full s = true then (s, -4) else recO s (recF (tj s).1 (tj s).2.1) := rfl
section MOD21
variable {Γ : Gm} {Z : Hz} {V : Hv} {a : Nat → Nat} {L : Nat → Nat} {T : Nat → Fr} {f n : Nat} {s : St}
set_option maxRecDepth 100000 in
theorem m_isSmall {s : Nat} (hR : mR Z a) (hG : mG (vA V (a 1)) L) (hs : s < 240) (hs2 : s ≠ 224) (hx : L s < 4294967296 ^ 6) : zCt Γ mX10_isSmall 2 55 0 0 [.ref (a 0), .int (nI s)] (Z, V) (pZ (fun r S' => r = decide (L s * L s * 2 < L 223) ∧ mP Z V (a 1) (va_up L 224 (L s * L s * 2)) S')) := by
  refine zCt.of [some (.ref (a 0)), some (.int (nI s))] pn_X10_isSmall rfl (Nat.le_of_ble_eq_true rfl) rfl (fun κ F => ?_)
  obtain ⟨b0, b1, b2, -⟩ := hR.1
  have m1 := mul_lt12 hx hx
  refine z_aload_n F dX10_isSmall_0 rfl ?_
  refine z_iload_n F dX10_isSmall_1 rfl ?_
  refine z_iload_n F dX10_isSmall_2 rfl ?_
  refine z_sipush (v := nI 224) F dX10_isSmall_3 (by decide) ?_
  refine z_cVv F (m_times (s := s) (t := s) (c := 224) hR hG hs hs (by decide) hs2 hs2 (lt16 m1)) dX10_isSmall_6 ml_X10_102 ok_X10_times b0 (by decide) rfl rfl rfl (Nat.le_of_ble_eq_true rfl) (by decide) (by decide) (fun S' hS' => ?_)
  obtain ⟨V1, rfl, hE1, hG1⟩ := hS'
  refine z_aload_n F dX10_isSmall_9 rfl ?_
  refine z_sipush (v := nI 224) F dX10_isSmall_10 (by decide) ?_
  refine z_sipush (v := nI 224) F dX10_isSmall_13 (by decide) ?_
  refine z_sipush (v := nI 224) F dX10_isSmall_16 (by decide) ?_
  refine z_cVv F (m_plus (s := 224) (t := 224) (c := 224) hR hG1 (by decide) (by decide) (by decide) (by rw [up_self]; exact lt16a m1 m1)) dX10_isSmall_19 ml_X10_106 ok_X10_plus b0 (by decide) rfl rfl rfl (Nat.le_of_ble_eq_true rfl) (by decide) (by decide) (fun S' hS' => ?_)
  obtain ⟨V2, rfl, hE2, hG2⟩ := hS'
  rw [up_self, bx_uu, ← Nat.mul_two] at hG2
  refine z_aload_n F dX10_isSmall_22 rfl ?_
  refine z_sipush (v := nI 224) F dX10_isSmall_23 (by decide) ?_
  refine z_sipush (v := nI 223) F dX10_isSmall_26 (by decide) ?_
  refine z_cVi F (m_orderOf (s := 224) (t := 223) hR hG2 (by decide) (by decide)) dX10_isSmall_29 ml_X10_76 ok_X10_orderOf b0 (by decide) rfl rfl rfl (Nat.le_of_ble_eq_true rfl) (by decide) (by decide) (fun r S' hr => ?_)
  obtain ⟨rfl, rfl⟩ := hr
  rw [up_self, up_ne _ _ (by decide)]
  have hP : mP Z V (a 1) (va_up L 224 (L s * L s * 2)) (Z, V2) := ⟨V2, rfl, hE1.trans hE2, hG2⟩
  refine z_if_ge (tgt := 39) F dX10_isSmall_32 (by decide) (fun c => ?_) (fun c => ?_)
  · have h : ¬ L s * L s * 2 < L 223 := Nat.not_lt.mpr ((cmpI_ge _ _).mp c)
    refine z_iconst (v := nI 0) F dX10_isSmall_39 (by decide) ?_
    exact z_zret F false dX10_isSmall_40 rfl rfl ⟨(decide_eq_false h).symm, hP⟩
  · have h : L s * L s * 2 < L 223 := Nat.lt_of_not_le (fun z => c ((cmpI_ge _ _).mpr z))
    refine z_iconst (v := nI 1) F dX10_isSmall_35 (by decide) ?_
    refine z_goto (tgt := 40) F dX10_isSmall_36 (by decide) ?_
    exact z_zret F true dX10_isSmall_40 rfl rfl ⟨(decide_eq_true h).symm, hP⟩
set_option maxRecDepth 100000 in
set_option maxHeartbeats 1000000 in
theorem m_recover (hR : mR Z a) (hM : rMT a V n T L s) (hO : sOk n s) : zCt Γ mX10_recover 3 78 0 0 [.ref (a 0)] (Z, V) (pI (oX Z a n V 0 (opRec s))) := by
  refine zCt.of [some (.ref (a 0)), none] pn_X10_recover rfl (Nat.le_of_ble_eq_true rfl) rfl (fun κ F => ?_)
  obtain ⟨b0, b1, b2, -⟩ := hR.1
  obtain ⟨d1, d2, d3, d4⟩ := hR.2.1
  have n21 := hR.n21
  refine z_aload_n F dX10_recover_0 rfl ?_
  refine z_iconst (v := nI 0) F dX10_recover_1 (by decide) ?_
  refine z_putI F dX10_recover_2 pi_X10_52 (zf_9_6 _) (by assumption) ?_
  obtain ⟨V1, e1, hg, ht, hM⟩ := hM.th0
  refine z_V (Z := Z) e1 ?_
  have h3 := hM.2.2.1.1.2.1
  have hcs := hM.2.2.1.1.2.2.1
  rw [opRec_eq]
  refine z_aload_n F dX10_recover_5 rfl ?_
  refine z_getI F dX10_recover_6 gi_X10_116 (by assumption) ?_
  refine z_ti h3 ?_
  refine z_bipush (v := nI 40) F dX10_recover_9 (by decide) ?_
  refine z_icmp_ne (tgt := 17) F dX10_recover_11 (by decide) (fun c => ?_) (fun c => ?_)
  · have h := mt (eq40 hcs).mpr c
    have h40 := full_f h
    rw [if_neg h]
    have e111 := hM.2.2.2.2.2.2
    obtain ⟨lj, lm, -⟩ := hM.2.1.2 111 (by decide)
    rw [e111] at lj lm
    have hjm := hO.2.2.2.1
    have hmw := hO.2.2.2.2
    generalize (tj s).1 = J at *
    generalize (tj s).2.1 = M at *
    have lj' : L 222 = J := lj
    have lm' : L 223 = M := lm
    have hG0 := hM.2.1.1
    obtain ⟨R, hRR⟩ : ∃ R, R = recF J M := ⟨_, rfl⟩
    rw [← hRR]
    generalize hQ : zQ Γ κ (pI (oX Z a n V 0 (recO s R))) 0 0 = Q
    -- none is told
    have no : ∀ (V5 : Hv) (L5 : Nat → Nat) (pc : Nat) (l1 : Option Value), eW (a 1) V1 V5 → mG (vA V5 (a 1)) L5 → (∀ k, k < 224 → L5 k = L k) → R = none → oX Z a n V 0 (recO s R) (-6) (Z, V5) := by
      intro V5 L5 pc l1 hE5 hG5 hk5 hR5
      rw [hR5]
      exact oX.same (hg.trans (gM.ofM hE5.m)) (hM.view hR hE5.m (hM.2.1.sc hR hE5 hG5 hk5) (fun _ _ => rfl)) (by rw [hE5.i]; exact ht)
    have fin : ∀ (V5 : Hv) (L5 : Nat → Nat) (b t : Nat) (g : Bool), eW (a 1) V1 V5 → mG (vA V5 (a 1)) L5 → (∀ k, k < 224 → L5 k = L k) → L5 232 = b → L5 234 = t → b < 4294967296 ^ 6 → t < 4294967296 ^ 6 → 1 ≤ t → eucF M b t g = R → zX Γ κ (Z, V5) 0 0 Q 159 [some (.ref (a 0)), some (.int (zb g))] [] := by
      intro V5 L5 b t g hE5 hG5 hk5 hb ht' hbw htw ht1 hsp
      unfold eucF at hsp
      refine z_aload_n F dX10_recover_159 rfl ?_
      refine z_sipush (v := nI 234) F dX10_recover_160 (by decide) ?_
      refine z_cVz F (m_isSmall (s := 234) hR hG5 (by decide) (by decide) (by rw [ht']; exact htw)) dX10_recover_163 ml_X10_222 ok_X10_isSmall b0 (by decide) rfl rfl rfl (Nat.le_of_ble_eq_true rfl) (by decide) (by decide) (fun r S' hr => ?_)
      obtain ⟨rfl, V6, rfl, hE6, hG6⟩ := hr
      rw [ht', hk5 223 (by decide), lm']
      have hE56 := hE5.trans hE6
      have q223 : ∀ k, k < 224 → va_up L5 224 (L5 234 * L5 234 * 2) k = L k := fun k hk => by rw [up_ne _ _ (by omega)]; exact hk5 k hk
      have q232 : va_up L5 224 (L5 234 * L5 234 * 2) 232 = b := by rw [up_ne _ _ (by decide)]; exact hb
      have q234 : va_up L5 224 (L5 234 * L5 234 * 2) 234 = t := by rw [up_ne _ _ (by decide)]; exact ht'
      generalize va_up L5 224 (L5 234 * L5 234 * 2) = L6 at *
      refine z_if_ne (tgt := 172) F dX10_recover_166 (by decide) (fun c1 => ?_) (fun c1 => ?_)
      · have h1 : t * t * 2 < M := of_decide_eq_true (zb_t c1)
        -- what they share
        have sh : ∀ (V7 : Hv) (L7 : Nat → Nat), eW (a 1) V1 V7 → mG (vA V7 (a 1)) L7 → (∀ k, k < 224 → L7 k = L k) → L7 232 = b → L7 234 = t → L7 235 = Nat.gcd b t → zX Γ κ (Z, V7) 0 0 Q 205 [some (.ref (a 0)), some (.int (zb g))] [] := by
          intro V7 L7 hE7 hG7 hk7 hb7 ht7 hg7
          refine z_aload_n F dX10_recover_205 rfl ?_
          refine z_sipush (v := nI 235) F dX10_recover_206 (by decide) ?_
          refine z_cVz F (m_isOne (s := 235) hR hG7 (by decide)) dX10_recover_209 ml_X10_88 ok_X10_isOne b0 (by decide) rfl rfl rfl (Nat.le_of_ble_eq_true rfl) (by decide) (by decide) (fun r S' hr => ?_)
          obtain ⟨rfl, rfl⟩ := hr
          rw [hg7]
          refine z_if_ne (tgt := 218) F dX10_recover_212 (by decide) (fun c2 => ?_) (fun c2 => ?_)
          · have h2 : Nat.gcd b t = 1 := of_decide_eq_true (zb_t c2)
            rw [if_pos ⟨h1, h2⟩] at hsp
            rw [← hsp] at hQ
            refine z_aload_n F dX10_recover_218 rfl ?_
            refine z_sipush (v := nI 232) F dX10_recover_219 (by decide) ?_
            refine z_sipush (v := nI 210) F dX10_recover_222 (by decide) ?_
            refine z_cVv F (m_carryOver (s := 232) (t := 210) hR hG7 (by decide) (by decide)) dX10_recover_225 ml_X10_82 ok_X10_carryOver b0 (by decide) rfl rfl rfl (Nat.le_of_ble_eq_true rfl) (by decide) (by decide) (fun S' hS' => ?_)
            obtain ⟨V8, rfl, hE8, hG8⟩ := hS'
            rw [hb7] at hG8
            refine z_aload_n F dX10_recover_228 rfl ?_
            refine z_sipush (v := nI 234) F dX10_recover_229 (by decide) ?_
            refine z_sipush (v := nI 211) F dX10_recover_232 (by decide) ?_
            refine z_cVv F (m_carryOver (s := 234) (t := 211) hR hG8 (by decide) (by decide)) dX10_recover_235 ml_X10_82 ok_X10_carryOver b0 (by decide) rfl rfl rfl (Nat.le_of_ble_eq_true rfl) (by decide) (by decide) (fun S' hS' => ?_)
            obtain ⟨V9, rfl, hE9, hG9⟩ := hS'
            rw [up_ne (j := 234) _ _ (by decide), ht7] at hG9
            have hE79 := (hE7.trans hE8).trans hE9
            have q9 : va_up (va_up L7 210 b) 211 t 232 = b := by rw [up_ne _ _ (by decide), up_ne _ _ (by decide)]; exact hb7
            have inb := hR.inb (f := 105) (by decide)
            have put : ∀ w : Bool, w = (g && decide (b ≠ 0)) → zX Γ κ (Z, V9) 0 0 Q 263 [some (.ref (a 0)), some (.int (zb g))] [.int (zb w), .int (nI 105), .ref (a 2)] := by
              intro w hw
              rw [← hw] at hQ
              obtain ⟨V10, hV10⟩ : ∃ V10, V10 = sA V9 (a 2) (upd (vA V9 (a 2)) (nI 105).toNatClampNeg (zb w)) := ⟨_, rfl⟩
              have hL10 : mL a V10 (va_up T 105 (w, b, t)) (va_up (va_up L7 210 b) 211 t) := by
                refine hM.2.1.put (by decide) (by rw [hV10, vA_sA_ne _ _ (Ne.symm n21)]; exact hG9) (fun k hk h1 h2 => ?_) ?_ ?_ (fun i hi => ?_) ?_
                · rw [up_ne _ _ h2, up_ne _ _ h1]; exact hk7 k hk
                · rw [up_ne _ _ (by decide), up_self]
                · rw [up_self]
                · rw [hV10, vA_sA_self, nI_clamp (by decide), pk_un hi, hE79.2.1 _ n21]
                · rw [hV10, vA_sA_self, nI_clamp (by decide), pk_us]
              have hE10 : e2A a V1 V10 := by rw [hV10]; exact hE79.m.trans (e2A.sB V9 _)
              have hM10 := hM.up hR hE10 hL10 (Or.inr (Or.inr ⟨by decide, by decide⟩))
              have ht10 : vI V10 9 6 (a 0) = 0 := by rw [hE10.i]; exact ht
              refine z_zast F dX10_recover_263 (by assumption) (by assumption) (zb01 _) ?_
              refine z_V (Z := Z) (show _ = V10 from hV10.symm) ?_
              refine z_aload_n F dX10_recover_264 rfl ?_
              refine z_bipush (v := nI 105) F dX10_recover_265 (by decide) ?_
              refine z_cVi F (m_asNumber (f := 105) hR hM10 ht10 h40 (by decide)) dX10_recover_267 ml_X10_150 ok_X10_asNumber b0 (by decide) rfl rfl rfl (Nat.le_of_ble_eq_true rfl) (by decide) (by decide) (fun r S' hr => ?_)
              rw [up_self] at hr
              subst hQ
              exact z_iret F dX10_recover_270 rfl (oX.after (hg.trans (gM.ofM hE10)) hr)
            refine z_aload_n F dX10_recover_238 rfl ?_
            refine z_getR F dX10_recover_239 gr_X10_13 (by assumption) (by assumption) ?_
            refine z_bipush (v := nI 105) F dX10_recover_242 (by decide) ?_
            refine z_iload_n F dX10_recover_244 rfl ?_
            refine z_if_eq (tgt := 262) F dX10_recover_245 (by decide) (fun c3 => ?_) (fun c3 => ?_)
            · have h := (zb_eq0 _).mp c3
              refine z_iconst (v := nI 0) F dX10_recover_262 (by decide) ?_
              exact put false (by rw [h]; rfl)
            · have h := zb_t c3
              refine z_aload_n F dX10_recover_248 rfl ?_
              refine z_sipush (v := nI 232) F dX10_recover_249 (by decide) ?_
              refine z_cVi F (m_topOf (s := 232) hR hG9 (by decide)) dX10_recover_252 ml_X10_60 ok_X10_topOf b0 (by decide) rfl rfl rfl (Nat.le_of_ble_eq_true rfl) (by decide) (by decide) (fun r S' hr => ?_)
              obtain ⟨rfl, tp, rfl, htp, hx1, hx2⟩ := hr
              rw [q9] at hx1 hx2
              have htop := top_0 htp hx1 hx2
              refine z_if_le (tgt := 262) F dX10_recover_255 (by decide) (fun c4 => ?_) (fun c4 => ?_)
              · have hb0 := htop.mp c4
                refine z_iconst (v := nI 0) F dX10_recover_262 (by decide) ?_
                exact put false (by rw [hb0]; cases g <;> rfl)
              · have hb0 := mt htop.mpr c4
                refine z_iconst (v := nI 1) F dX10_recover_258 (by decide) ?_
                refine z_goto (tgt := 263) F dX10_recover_259 (by decide) ?_
                exact put true (by rw [h, decide_eq_true hb0]; rfl)
          · have h2 : ¬ Nat.gcd b t = 1 := fun e => zb_f c2 (decide_eq_true e)
            rw [if_neg (fun z => h2 z.2)] at hsp
            subst hQ
            refine z_bipush (v := (-6)) F dX10_recover_215 (by decide) ?_
            exact z_iret F dX10_recover_217 rfl (no V7 L7 0 none hE7 hG7 hk7 hsp.symm)
        refine z_aload_n F dX10_recover_172 rfl ?_
        refine z_sipush (v := nI 232) F dX10_recover_173 (by decide) ?_
        refine z_cVi F (m_topOf (s := 232) hR hG6 (by decide)) dX10_recover_176 ml_X10_60 ok_X10_topOf b0 (by decide) rfl rfl rfl (Nat.le_of_ble_eq_true rfl) (by decide) (by decide) (fun r S' hr => ?_)
        obtain ⟨rfl, tp, rfl, htp, hx1, hx2⟩ := hr
        rw [q232] at hx1 hx2
        have htop := top_0 htp hx1 hx2
        refine z_if_le (tgt := 195) F dX10_recover_179 (by decide) (fun c2 => ?_) (fun c2 => ?_)
        · have hb0 := htop.mp c2
          refine z_aload_n F dX10_recover_195 rfl ?_
          refine z_sipush (v := nI 234) F dX10_recover_196 (by decide) ?_
          refine z_sipush (v := nI 235) F dX10_recover_199 (by decide) ?_
          refine z_cVv F (m_carryOver (s := 234) (t := 235) hR hG6 (by decide) (by decide)) dX10_recover_202 ml_X10_82 ok_X10_carryOver b0 (by decide) rfl rfl rfl (Nat.le_of_ble_eq_true rfl) (by decide) (by decide) (fun S' hS' => ?_)
          obtain ⟨V7, rfl, hE7, hG7⟩ := hS'
          exact sh V7 _ (hE56.trans hE7) hG7 (fun k hk => by rw [up_ne _ _ (by omega)]; exact q223 k hk) (by rw [up_ne _ _ (by decide)]; exact q232) (by rw [up_ne _ _ (by decide)]; exact q234) (by rw [up_self, q234, hb0, Nat.gcd_zero_left])
        · have hb0 := mt htop.mpr c2
          refine z_aload_n F dX10_recover_182 rfl ?_
          refine z_sipush (v := nI 232) F dX10_recover_183 (by decide) ?_
          refine z_sipush (v := nI 234) F dX10_recover_186 (by decide) ?_
          refine z_cVv F (m_divisor (s := 232) (t := 234) hR hG6 (by decide) (by decide) (by decide) (by decide) (by rw [q232]; exact hb0) (by rw [q234]; omega)) dX10_recover_189 ml_X10_95 ok_X10_divisor b0 (by decide) rfl rfl rfl (Nat.le_of_ble_eq_true rfl) (by decide) (by decide) (fun S' hS' => ?_)
          obtain ⟨L7, ⟨V7, rfl, hE7, hG7⟩, h235, hk7⟩ := hS'
          rw [q232, q234] at h235
          refine z_goto (tgt := 205) F dX10_recover_192 (by decide) ?_
          exact sh V7 L7 (hE56.trans hE7) hG7 (fun k hk => by rw [hk7 k (by omega) (by omega) (by omega)]; exact q223 k hk) (by rw [hk7 232 (by decide) (by decide) (by decide)]; exact q232) (by rw [hk7 234 (by decide) (by decide) (by decide)]; exact q234) h235
      · have h1 : ¬ t * t * 2 < M := fun e => zb_f c1 (decide_eq_true e)
        rw [if_neg (fun z => h1 z.1)] at hsp
        subst hQ
        refine z_bipush (v := (-6)) F dX10_recover_169 (by decide) ?_
        exact z_iret F dX10_recover_171 rfl (no V6 L6 0 none hE56 hG6 q223 hsp.symm)
    have loop : ∀ (k fu x b y t : Nat) (V5 : Hv) (L5 : Nat → Nat) (g : Bool), k ≤ fu → bl x + bl b ≤ k → b < x → 1 ≤ t → x * t + b * y = M → eW (a 1) V1 V5 → mG (vA V5 (a 1)) L5 → (∀ k, k < 224 → L5 k = L k) → L5 231 = x → L5 232 = b → L5 233 = y → L5 234 = t → eucR M fu x b y t g = R → zX Γ κ (Z, V5) 0 0 Q 54 [some (.ref (a 0)), some (.int (zb g))] [] := by
      intro k
      induction k with
      | zero =>
        intro fu x b y t V5 L5 g _ hbl hbx
        have : bl x = 0 := by omega
        have hx0 : x < 2 ^ 0 := bl_le.mp (by omega)
        omega
      | succ k ih =>
        intro fu x b y t V5 L5 g hfu hbl hbx ht1 hinv hE5 hG5 hk5 h231 h232 h233 h234 hsp
        obtain ⟨f', rfl⟩ : ∃ f', fu = f' + 1 := ⟨fu - 1, by omega⟩
        obtain ⟨hxM, htM, hbM⟩ := euc_bounds ht1 hbx hinv
        have hbw := Nat.lt_of_le_of_lt hbM hmw
        have htw := Nat.lt_of_le_of_lt htM hmw
        have hxw := Nat.lt_of_le_of_lt hxM hmw
        have heu : eucR M (f' + 1) x b y t g = if b * b * 2 < M then eucF M b t g else eucR M f' b (x % b) t (y + x / b * t) (!g) := rfl
        rw [heu] at hsp
        refine z_aload_n F dX10_recover_54 rfl ?_
        refine z_sipush (v := nI 232) F dX10_recover_55 (by decide) ?_
        refine z_cVz F (m_isSmall (s := 232) hR hG5 (by decide) (by decide) (by rw [h232]; exact hbw)) dX10_recover_58 ml_X10_222 ok_X10_isSmall b0 (by decide) rfl rfl rfl (Nat.le_of_ble_eq_true rfl) (by decide) (by decide) (fun r S' hr => ?_)
        obtain ⟨rfl, V6, rfl, hE6, hG6⟩ := hr
        rw [h232, hk5 223 (by decide), lm']
        have hE56 := hE5.trans hE6
        have q : ∀ k, k ≠ 224 → va_up L5 224 (L5 232 * L5 232 * 2) k = L5 k := fun k hk => up_ne _ _ hk
        generalize va_up L5 224 (L5 232 * L5 232 * 2) = L6 at *
        refine z_if_ne (tgt := 159) F dX10_recover_61 (by decide) (fun c1 => ?_) (fun c1 => ?_)
        · have h1 : b * b * 2 < M := of_decide_eq_true (zb_t c1)
          rw [if_pos h1] at hsp
          exact fin V6 L6 b t g hE56 hG6 (fun k hk => by rw [q k (by omega)]; exact hk5 k hk) (by rw [q 232 (by decide)]; exact h232) (by rw [q 234 (by decide)]; exact h234) hbw htw ht1 hsp
        · have h1 : ¬ b * b * 2 < M := fun e => zb_f c1 (decide_eq_true e)
          rw [if_neg h1] at hsp
          have hb0 : 0 < b := by
            rcases Nat.eq_zero_or_pos b with z | z
            · rw [z, Nat.mul_zero, Nat.zero_mul] at h1
              omega
            · exact z
          have r231 : L6 231 = x := by rw [q 231 (by decide)]; exact h231
          have r232 : L6 232 = b := by rw [q 232 (by decide)]; exact h232
          have r233 : L6 233 = y := by rw [q 233 (by decide)]; exact h233
          have r234 : L6 234 = t := by rw [q 234 (by decide)]; exact h234
          have hinv2 := euc_step hb0 hinv
          obtain ⟨hn1, hn2⟩ := euc_next ht1 hbx hb0 hinv2
          have hqt : x / b * t ≤ M := by omega
          have hy : y ≤ M := by omega
          refine z_aload_n F dX10_recover_64 rfl ?_
          refine z_sipush (v := nI 231) F dX10_recover_65 (by decide) ?_
          refine z_sipush (v := nI 232) F dX10_recover_68 (by decide) ?_
          refine z_sipush (v := nI 229) F dX10_recover_71 (by decide) ?_
          refine z_sipush (v := nI 230) F dX10_recover_74 (by decide) ?_
          refine z_cVv F (m_divide (s := 231) (t := 232) (q := 229) (r := 230) hR hG6 (by decide) (by decide) (by decide) (by decide) (by decide) (by decide) (by decide) (by decide) (by decide) (by rw [r232]; exact hb0) (by rw [r232]; exact lt15 (lt12 hbw))) dX10_recover_77 ml_X10_98 ok_X10_divide b0 (by decide) rfl rfl rfl (Nat.le_of_ble_eq_true rfl) (by decide) (by decide) (fun S' hS' => ?_)
          obtain ⟨V7, rfl, hE7, hG7⟩ := hS'
          rw [r231, r232] at hG7
          have p229 : va_up (va_up L6 229 (x / b)) 230 (x % b) 229 = x / b := by rw [up_ne _ _ (by decide), up_self]
          have p230 : va_up (va_up L6 229 (x / b)) 230 (x % b) 230 = x % b := up_self _ _ _
          have p : ∀ k, k ≠ 229 → k ≠ 230 → va_up (va_up L6 229 (x / b)) 230 (x % b) k = L6 k := fun k h1 h2 => by rw [up_ne _ _ h2, up_ne _ _ h1]
          generalize va_up (va_up L6 229 (x / b)) 230 (x % b) = L7 at *
          refine z_aload_n F dX10_recover_80 rfl ?_
          refine z_sipush (v := nI 232) F dX10_recover_81 (by decide) ?_
          refine z_sipush (v := nI 231) F dX10_recover_84 (by decide) ?_
          refine z_cVv F (m_carryOver (s := 232) (t := 231) hR hG7 (by decide) (by decide)) dX10_recover_87 ml_X10_82 ok_X10_carryOver b0 (by decide) rfl rfl rfl (Nat.le_of_ble_eq_true rfl) (by decide) (by decide) (fun S' hS' => ?_)
          obtain ⟨V8, rfl, hE8, hG8⟩ := hS'
          rw [p 232 (by decide) (by decide), r232] at hG8
          refine z_aload_n F dX10_recover_90 rfl ?_
          refine z_sipush (v := nI 230) F dX10_recover_91 (by decide) ?_
          refine z_sipush (v := nI 232) F dX10_recover_94 (by decide) ?_
          refine z_cVv F (m_carryOver (s := 230) (t := 232) hR hG8 (by decide) (by decide)) dX10_recover_97 ml_X10_82 ok_X10_carryOver b0 (by decide) rfl rfl rfl (Nat.le_of_ble_eq_true rfl) (by decide) (by decide) (fun S' hS' => ?_)
          obtain ⟨V9, rfl, hE9, hG9⟩ := hS'
          rw [up_ne (j := 230) _ _ (by decide), p230] at hG9
          have o229 : va_up (va_up L7 231 b) 232 (x % b) 229 = x / b := by rw [up_ne _ _ (by decide), up_ne _ _ (by decide)]; exact p229
          have o231 : va_up (va_up L7 231 b) 232 (x % b) 231 = b := by rw [up_ne _ _ (by decide), up_self]
          have o232 : va_up (va_up L7 231 b) 232 (x % b) 232 = x % b := up_self _ _ _
          have o233 : va_up (va_up L7 231 b) 232 (x % b) 233 = y := by rw [up_ne _ _ (by decide), up_ne _ _ (by decide), p 233 (by decide) (by decide)]; exact r233
          have o234 : va_up (va_up L7 231 b) 232 (x % b) 234 = t := by rw [up_ne _ _ (by decide), up_ne _ _ (by decide), p 234 (by decide) (by decide)]; exact r234
          have ok : ∀ k, k < 224 → va_up (va_up L7 231 b) 232 (x % b) k = L k := fun k hk => by rw [up_ne _ _ (by omega), up_ne _ _ (by omega), p k (by omega) (by omega), q k (by omega)]; exact hk5 k hk
          generalize va_up (va_up L7 231 b) 232 (x % b) = L9 at *
          refine z_aload_n F dX10_recover_100 rfl ?_
          refine z_sipush (v := nI 229) F dX10_recover_101 (by decide) ?_
          refine z_sipush (v := nI 234) F dX10_recover_104 (by decide) ?_
          refine z_sipush (v := nI 236) F dX10_recover_107 (by decide) ?_
          refine z_cVv F (m_times (s := 229) (t := 234) (c := 236) hR hG9 (by decide) (by decide) (by decide) (by decide) (by decide) (by rw [o229, o234]; exact lt16 (lt12 (Nat.lt_of_le_of_lt hqt hmw)))) dX10_recover_110 ml_X10_102 ok_X10_times b0 (by decide) rfl rfl rfl (Nat.le_of_ble_eq_true rfl) (by decide) (by decide) (fun S' hS' => ?_)
          obtain ⟨V10, rfl, hE10, hG10⟩ := hS'
          rw [o229, o234] at hG10
          refine z_aload_n F dX10_recover_113 rfl ?_
          refine z_sipush (v := nI 236) F dX10_recover_114 (by decide) ?_
          refine z_sipush (v := nI 233) F dX10_recover_117 (by decide) ?_
          refine z_sipush (v := nI 236) F dX10_recover_120 (by decide) ?_
          refine z_cVv F (m_plus (s := 236) (t := 233) (c := 236) hR hG10 (by decide) (by decide) (by decide) (by rw [up_self, up_ne _ _ (by decide), o233]; exact lt16a (lt12 (Nat.lt_of_le_of_lt hqt hmw)) (lt12 (Nat.lt_of_le_of_lt hy hmw)))) dX10_recover_123 ml_X10_106 ok_X10_plus b0 (by decide) rfl rfl rfl (Nat.le_of_ble_eq_true rfl) (by decide) (by decide) (fun S' hS' => ?_)
          obtain ⟨V11, rfl, hE11, hG11⟩ := hS'
          rw [up_self, up_ne (j := 233) _ _ (by decide), o233, bx_uu, Nat.add_comm (x / b * t) y] at hG11
          refine z_aload_n F dX10_recover_126 rfl ?_
          refine z_sipush (v := nI 234) F dX10_recover_127 (by decide) ?_
          refine z_sipush (v := nI 233) F dX10_recover_130 (by decide) ?_
          refine z_cVv F (m_carryOver (s := 234) (t := 233) hR hG11 (by decide) (by decide)) dX10_recover_133 ml_X10_82 ok_X10_carryOver b0 (by decide) rfl rfl rfl (Nat.le_of_ble_eq_true rfl) (by decide) (by decide) (fun S' hS' => ?_)
          obtain ⟨V12, rfl, hE12, hG12⟩ := hS'
          rw [up_ne (j := 234) _ _ (by decide), o234] at hG12
          refine z_aload_n F dX10_recover_136 rfl ?_
          refine z_sipush (v := nI 236) F dX10_recover_137 (by decide) ?_
          refine z_sipush (v := nI 234) F dX10_recover_140 (by decide) ?_
          refine z_cVv F (m_carryOver (s := 236) (t := 234) hR hG12 (by decide) (by decide)) dX10_recover_143 ml_X10_82 ok_X10_carryOver b0 (by decide) rfl rfl rfl (Nat.le_of_ble_eq_true rfl) (by decide) (by decide) (fun S' hS' => ?_)
          obtain ⟨V13, rfl, hE13, hG13⟩ := hS'
          rw [up_ne (j := 236) _ _ (by decide), up_self] at hG13
          have hE613 := ((((((hE56.trans hE7).trans hE8).trans hE9).trans hE10).trans hE11).trans hE12).trans hE13
          have nx : zX Γ κ (Z, V13) 0 0 Q 155 [some (.ref (a 0)), some (.int (zb g))] [.int (zb (!g))] := by
            refine z_istore_n_1 F dX10_recover_155 rfl ?_
            refine z_goto (tgt := 54) F dX10_recover_156 (by decide) ?_
            refine ih f' b (x % b) t (y + x / b * t) V13 _ (!g) (by omega) ?_ (Nat.mod_lt _ hb0) hn2 hinv2 hE613 hG13 (fun k hk => ?_) ?_ ?_ ?_ (up_self _ _ _) hsp
            · have := bl_mod hb0 hbx
              omega
            · rw [up_ne _ _ (by omega), up_ne _ _ (by omega), up_ne _ _ (by omega)]; exact ok k hk
            · rw [up_ne _ _ (by decide), up_ne _ _ (by decide), up_ne _ _ (by decide)]; exact o231
            · rw [up_ne _ _ (by decide), up_ne _ _ (by decide), up_ne _ _ (by decide)]; exact o232
            · rw [up_ne _ _ (by decide), up_self]
          refine z_iload_n F dX10_recover_146 rfl ?_
          refine z_if_ne (tgt := 154) F dX10_recover_147 (by decide) (fun c2 => ?_) (fun c2 => ?_)
          · have h := zb_t c2
            rw [h] at nx
            rw [h]
            refine z_iconst (v := nI 0) F dX10_recover_154 (by decide) ?_
            exact nx
          · have h := (zb_eq0 _).mp c2
            rw [h] at nx
            rw [h]
            refine z_iconst (v := nI 1) F dX10_recover_150 (by decide) ?_
            refine z_goto (tgt := 155) F dX10_recover_151 (by decide) ?_
            exact nx
    refine z_aload_n F dX10_recover_17 rfl ?_
    refine z_sipush (v := nI 223) F dX10_recover_18 (by decide) ?_
    refine z_sipush (v := nI 231) F dX10_recover_21 (by decide) ?_
    refine z_cVv F (m_carryOver (s := 223) (t := 231) hR hG0 (by decide) (by decide)) dX10_recover_24 ml_X10_82 ok_X10_carryOver b0 (by decide) rfl rfl rfl (Nat.le_of_ble_eq_true rfl) (by decide) (by decide) (fun S' hS' => ?_)
    obtain ⟨V2, rfl, hE2, hG2⟩ := hS'
    rw [lm'] at hG2
    refine z_aload_n F dX10_recover_27 rfl ?_
    refine z_sipush (v := nI 222) F dX10_recover_28 (by decide) ?_
    refine z_sipush (v := nI 232) F dX10_recover_31 (by decide) ?_
    refine z_cVv F (m_carryOver (s := 222) (t := 232) hR hG2 (by decide) (by decide)) dX10_recover_34 ml_X10_82 ok_X10_carryOver b0 (by decide) rfl rfl rfl (Nat.le_of_ble_eq_true rfl) (by decide) (by decide) (fun S' hS' => ?_)
    obtain ⟨V3, rfl, hE3, hG3⟩ := hS'
    rw [up_ne (j := 222) _ _ (by decide), lj'] at hG3
    refine z_aload_n F dX10_recover_37 rfl ?_
    refine z_sipush (v := nI 233) F dX10_recover_38 (by decide) ?_
    refine z_cVv F (m_wipe (s := 233) hR hG3 (by decide)) dX10_recover_41 ml_X10_55 ok_X10_wipe b0 (by decide) rfl rfl rfl (Nat.le_of_ble_eq_true rfl) (by decide) (by decide) (fun S' hS' => ?_)
    obtain ⟨V4, rfl, hE4, hG4⟩ := hS'
    refine z_aload_n F dX10_recover_44 rfl ?_
    refine z_sipush (v := nI 234) F dX10_recover_45 (by decide) ?_
    refine z_lconst (v := lN 1) F dX10_recover_48 (by decide) ?_
    refine z_cVv F (m_setLong (s := 234) (lN 1) hR hG4 (by decide)) dX10_recover_49 ml_X10_112 ok_X10_setLong b0 (by decide) rfl rfl rfl (Nat.le_of_ble_eq_true rfl) (by decide) (by decide) (fun S' hS' => ?_)
    obtain ⟨V5, rfl, hE5, hG5⟩ := hS'
    rw [lN_abs (by decide)] at hG5
    have b1M := bl192.mpr hmw
    have b1J := bl192.mpr (Nat.lt_trans hjm hmw)
    refine z_iconst (v := nI 0) F dX10_recover_52 (by decide) ?_
    refine z_istore_n_1 F dX10_recover_53 rfl ?_
    refine loop 384 100000 M J 0 1 V5 _ false (by decide) (by omega) hjm (Nat.le_refl 1) (by rw [Nat.mul_one, Nat.mul_zero]; rfl) (((hE2.trans hE3).trans hE4).trans hE5) hG5 (fun k hk => ?_) ?_ ?_ ?_ (up_self _ _ _) hRR.symm
    · rw [up_ne _ _ (by omega), up_ne _ _ (by omega), up_ne _ _ (by omega), up_ne _ _ (by omega)]
    · rw [up_ne _ _ (by decide), up_ne _ _ (by decide), up_ne _ _ (by decide), up_self]
    · rw [up_ne _ _ (by decide), up_ne _ _ (by decide), up_self]
    · rw [up_ne _ _ (by decide), up_self]
  · have h := (eq40 hcs).mp c
    rw [if_pos h]
    refine z_bipush (v := (-4)) F dX10_recover_14 (by decide) ?_
    exact z_iret F dX10_recover_16 rfl (oX.same hg hM ht)
end MOD21
