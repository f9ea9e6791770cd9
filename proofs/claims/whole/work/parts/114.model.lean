/-! ===== FractionRowsModel: elimination, its steps ===== -/
/-- the copy of the rows holds M -/
def mC (n : Nat) (T : Nat → Fr) (M : Mx) : Prop := ∀ p k, p < n → k ≤ n → T (70 + 6 * p + k) = M p k
def mOk (n : Nat) (M : Mx) : Prop := ∀ p k, p < n → k ≤ n → fok (M p k)
/-- but for what is made on the way, the fractions stay -/
def tZ (T T' : Nat → Fr) : Prop := ∀ q, ¬ scr 40 q → T' q = T q
def bN (b : Option Nat) : Int32 := match b with
  | none => -6
  | some c => nI c
/-- only arrays of these numbers have changed -/
def eA (a : Nat → Nat) (P : Nat → Prop) (V V' : Hv) : Prop := eG (fun _ _ _ => False) (fun b => ∃ k, P k ∧ b = a k) V V'
theorem eA.trans {a : Nat → Nat} {P : Nat → Prop} {V V1 V2 : Hv} (h1 : eA a P V V1) (h2 : eA a P V1 V2) : eA a P V V2 := eG.trans h1 h2
theorem tZ.refl (T : Nat → Fr) : tZ T T := fun _ _ => rfl
theorem tZ.trans {T T1 T2 : Nat → Fr} (h1 : tZ T T1) (h2 : tZ T1 T2) : tZ T T2 := fun q hq => (h2 q hq).trans (h1 q hq)
theorem tZ.up {T : Nat → Fr} {q : Nat} {x : Fr} (h : scr 40 q) : tZ T (va_up T q x) := nsc h T x
theorem mC.up {n p k : Nat} {T : Nat → Fr} {M : Mx} {x : Fr} (h : mC n T M) (hn : n ≤ 5) (hk : k ≤ n) : mC n (va_up T (70 + 6 * p + k) x) (up2 M p k x) := fun p' k' hp' hk' => by
  by_cases e : p' = p ∧ k' = k
  · rw [e.1, e.2, up_self, up2_self]
  · rw [up_ne _ _ (by omega), up2_ne _ _ e]; exact h p' k' hp' hk'
theorem mC.sc {n q : Nat} {T : Nat → Fr} {M : Mx} {x : Fr} (h : mC n T M) (hn : n ≤ 5) (hq : q < 70 ∨ 100 ≤ q) : mC n (va_up T q x) M := fun p' k' hp' hk' => by
  rw [up_ne _ _ (by omega)]; exact h p' k' hp' hk'
theorem mOk.up {n p k : Nat} {M : Mx} {x : Fr} (h : mOk n M) (hx : fok x) : mOk n (up2 M p k x) := fun p' k' hp' hk' => by
  by_cases e : p' = p ∧ k' = k
  · rw [e.1, e.2, up2_self]; exact hx
  · rw [up2_ne _ _ e]; exact h p' k' hp' hk'
theorem mOk.sw {n a b : Nat} {M : Mx} (h : mOk n M) (ha : a < n) (hb : b < n) : mOk n (swp M a b) := fun p k hp hk => by
  unfold swp
  by_cases e : p = a
  · rw [if_pos e]; exact h b k hb hk
  · rw [if_neg e]
    by_cases e2 : p = b
    · rw [if_pos e2]; exact h a k ha hk
    · rw [if_neg e2]; exact h p k hp hk
theorem f0_ok : fok f0 := ⟨⟨by decide, by decide, fun _ => rfl⟩, by decide, by decide⟩
theorem e2A.eA {a : Nat → Nat} {P : Nat → Prop} {V V' : Hv} (h : e2A a V V') (h1 : P 1) (h2 : P 2) : eA a P V V' := h.mono (fun _ _ _ z => z) (fun b z => by rcases z with z | z; exact ⟨1, h1, z⟩; exact ⟨2, h2, z⟩)
theorem eA.set {a : Nat → Nat} {P : Nat → Prop} {k : Nat} (V : Hv) (g : Nat → Int32) (h : P k) : eA a P V (sA V (a k) g) := eG.setA V g ⟨k, h, rfl⟩
theorem eA.i {a : Nat → Nat} {P : Nat → Prop} {V V' : Hv} (h : eA a P V V') (ci k b : Nat) : vI V' ci k b = vI V ci k b := h.1 ci k b (fun z => z)
theorem eA.ar {Z : Hz} {a : Nat → Nat} {P : Nat → Prop} {V V' : Hv} {k : Nat} (h : eA a P V V') (hR : mR Z a) (h1 : 1 ≤ k) (h2 : k ≤ 11) (hp : ¬ P k) (hP : ∀ j, P j → 1 ≤ j ∧ j ≤ 11) : vA V' (a k) = vA V (a k) := h.2.1 _ (fun ⟨j, hj, e⟩ => by
  have := hP j hj
  exact hp (hR.2.2.2.2 k j h1 h2 this.1 this.2 e ▸ hj))
/-- the fractions' arrays and nothing else they are read from -/
theorem mL.keep {Z : Hz} {a : Nat → Nat} {V : Hv} {T : Nat → Fr} {L : Nat → Nat} {k : Nat} {g : Nat → Int32} (h : mL a V T L) (hR : mR Z a) (h1 : 3 ≤ k) (h2 : k ≤ 11) : mL a (sA V (a k) g) T L := by
  unfold mL
  rw [vA_sA_ne _ _ (hR.ne (by decide) (by decide) (by omega) h2 (by omega)), vA_sA_ne _ _ (hR.ne (by decide) (by decide) (by omega) h2 (by omega))]
  exact h
theorem ix5 {i : Nat} (h : i < 5) {Z : Hz} {x : Nat} (hz : zn Z x = 5) : vp_in (nI i) (zn Z x) := by rw [hz]; exact vp_in_nI h (by decide)
section MOD14
variable {Γ : Gm} {Z : Hz} {V : Hv} {a : Nat → Nat} {L : Nat → Nat} {T : Nat → Fr} {f n : Nat} {M : Mx}
theorem bN_ne {c : Nat} (h : c < 1000) : ¬ nI c = (-6 : Int32) := fun e => by
  have := congrArg Int32.toInt e
  rw [nI_toInt (by omega)] at this
  have e6 : (-6 : Int32).toInt = -6 := by decide
  omega
set_option maxRecDepth 100000 in
set_option maxHeartbeats 1000000 in
theorem m_taken {way t j : Nat} (hR : mR Z a) (hn : 1 ≤ n ∧ n ≤ 5) (h2 : vI V 9 2 (a 0) = nI n) (hL : mL a V T L) (hC : mC n T M) (ht : t ≤ n) (hj : j ≤ n) (hway : way ≤ 1) : zCt Γ mX10_taken 3 67 0 0 [.ref (a 0), .int (nI way), .int (nI t), .int (nI j)] (Z, V) (pI (q0 Z V (bN (chz M way j (n - t) t none)))) := by
  refine zCt.of [some (.ref (a 0)), some (.int (nI way)), some (.int (nI t)), some (.int (nI j)), none, none] pn_X10_taken rfl (Nat.le_of_ble_eq_true rfl) rfl (fun κ F => ?_)
  obtain ⟨b0, b1, b2, -⟩ := hR.1
  generalize hQ : zQ Γ κ (pI (q0 Z V (bN (chz M way j (n - t) t none)))) 0 0 = Q
  have loop : ∀ (d p : Nat) (b : Option Nat), p + d = n → (∀ c, b = some c → c < n) → chz M way j d p b = chz M way j (n - t) t none → zX Γ κ (Z, V) 0 0 Q 7 [some (.ref (a 0)), some (.int (nI way)), some (.int (nI t)), some (.int (nI j)), some (.int (bN b)), some (.int (nI p))] [] := by
    intro d
    induction d with
    | zero =>
      intro p b hp hb hsp
      refine z_iload F dX10_taken_7 rfl ?_
      refine z_aload_n F dX10_taken_9 rfl ?_
      refine z_getI F dX10_taken_10 gi_X10_44 (by assumption) ?_
      refine z_ti h2 ?_
      refine z_icmp_ge (tgt := 86) F dX10_taken_13 (by decide) (fun c => ?_) (fun c => ?_)
      · subst hQ
        rw [← hsp]
        refine z_iload F dX10_taken_86 rfl ?_
        exact z_iret F dX10_taken_88 rfl ⟨rfl, rfl⟩
      · exact absurd (nI_le (by omega) (by omega)) c
    | succ d ih =>
      intro p b hp hb hsp
      have eT := hC p j (by omega) hj
      have hchz : chz M way j (d + 1) p b = chz M way j d (p + 1) (if (M p j).2.1 = 0 then b else pick M way j p b) := rfl
      rw [hchz] at hsp
      have next : ∀ b' : Option Nat, b' = (if (M p j).2.1 = 0 then b else pick M way j p b) → (∀ c, b' = some c → c < n) → zX Γ κ (Z, V) 0 0 Q 80 [some (.ref (a 0)), some (.int (nI way)), some (.int (nI t)), some (.int (nI j)), some (.int (bN b')), some (.int (nI p))] [] := by
        intro b' hb' hb2
        rw [← hb'] at hsp
        refine z_iinc_5 F dX10_taken_80 rfl ?_
        refine z_goto (tgt := 7) F dX10_taken_83 (by decide) ?_
        rw [show nI p + Int32.ofInt 1 = nI (p + 1) from nI_1 p]
        exact ih (p + 1) b' (by omega) hb2 hsp
      refine z_iload F dX10_taken_7 rfl ?_
      refine z_aload_n F dX10_taken_9 rfl ?_
      refine z_getI F dX10_taken_10 gi_X10_44 (by assumption) ?_
      refine z_ti h2 ?_
      refine z_icmp_ge (tgt := 86) F dX10_taken_13 (by decide) (fun c => ?_) (fun c => ?_)
      · exact absurd ((nI_leI (by omega) (by omega)).mp c) (by omega)
      · refine z_aload_n F dX10_taken_16 rfl ?_
        refine z_bipush (v := nI 70) F dX10_taken_17 (by decide) ?_
        refine z_bipush (v := nI 6) F dX10_taken_19 (by decide) ?_
        refine z_iload F dX10_taken_21 rfl ?_
        refine z_imul F dX10_taken_23 ?_
        refine z_ti (pk_mul 6 p) ?_
        refine z_iadd F dX10_taken_24 ?_
        refine z_ti (nI_add 70 _) ?_
        refine z_iload_n F dX10_taken_25 rfl ?_
        refine z_iadd F dX10_taken_26 ?_
        refine z_ti (nI_add _ _) ?_
        refine z_cVz F (m_isZero (f := 70 + 6 * p + j) hR hL (by omega)) dX10_taken_27 ml_X10_92 ok_X10_isZero b0 (by decide) rfl rfl rfl (Nat.le_of_ble_eq_true rfl) (by decide) (by decide) (fun r S' hr => ?_)
        obtain ⟨rfl, rfl⟩ := hr
        rw [eT]
        refine z_if_ne (tgt := 80) F dX10_taken_30 (by decide) (fun c2 => ?_) (fun c2 => ?_)
        · have h := of_decide_eq_true (zb_t c2)
          exact next b (by rw [if_pos h]) hb
        · have h : ¬ (M p j).2.1 = 0 := fun e => zb_f c2 (decide_eq_true e)
          refine z_iload F dX10_taken_33 rfl ?_
          refine z_bipush (v := (-6)) F dX10_taken_35 (by decide) ?_
          cases b with
          | none =>
            refine z_icmp_eq (tgt := 76) F dX10_taken_37 (by decide) (fun c3 => ?_) (fun c3 => ?_)
            · refine z_iload F dX10_taken_76 rfl ?_
              refine z_istore_4 F dX10_taken_78 rfl ?_
              exact next (some p) (by rw [if_neg h]; rfl) (fun c hc => by cases hc; omega)
            · exact absurd rfl c3
          | some cp =>
            have hcp := hb cp rfl
            refine z_icmp_eq (tgt := 76) F dX10_taken_37 (by decide) (fun c3 => ?_) (fun c3 => ?_)
            · exact absurd c3 (bN_ne (by omega))
            · refine z_iload_n F dX10_taken_40 rfl ?_
              refine z_iconst (v := nI 1) F dX10_taken_41 (by decide) ?_
              refine z_icmp_ne (tgt := 80) F dX10_taken_42 (by decide) (fun c4 => ?_) (fun c4 => ?_)
              · have hw : ¬ way = 1 := fun e => c4 (by rw [e])
                exact next (some cp) (by rw [if_neg h]; simp only [pick]; rw [if_neg (fun z => hw z.1)]) hb
              · have hw : way = 1 := (nI_inj32 (by omega) (by decide)).mp c4
                have eTc := hC cp j hcp hj
                have z1 := bl448 (hL.1.2 (2 * (70 + 6 * p + j)) (by omega))
                have z2 := bl448 (hL.1.2 (2 * (70 + 6 * p + j) + 1) (by omega))
                have z3 := bl448 (hL.1.2 (2 * (70 + 6 * cp + j)) (by omega))
                have z4 := bl448 (hL.1.2 (2 * (70 + 6 * cp + j) + 1) (by omega))
                obtain ⟨y1, y2, -⟩ := hL.2 (70 + 6 * p + j) (by omega)
                obtain ⟨y3, y4, -⟩ := hL.2 (70 + 6 * cp + j) (by omega)
                rw [y1, eT] at z1
                rw [y2, eT] at z2
                rw [y3, eTc] at z3
                rw [y4, eTc] at z4
                have fz1 : fsz (M p j) < 1000 := by show bl _ + bl _ < 1000; omega
                have fz2 : fsz (M cp j) < 1000 := by show bl _ + bl _ < 1000; omega
                refine z_aload_n F dX10_taken_45 rfl ?_
                refine z_bipush (v := nI 70) F dX10_taken_46 (by decide) ?_
                refine z_bipush (v := nI 6) F dX10_taken_48 (by decide) ?_
                refine z_iload F dX10_taken_50 rfl ?_
                refine z_imul F dX10_taken_52 ?_
                refine z_ti (pk_mul 6 p) ?_
                refine z_iadd F dX10_taken_53 ?_
                refine z_ti (nI_add 70 _) ?_
                refine z_iload_n F dX10_taken_54 rfl ?_
                refine z_iadd F dX10_taken_55 ?_
                refine z_ti (nI_add _ _) ?_
                refine z_cVi F (m_sizeOf (f := 70 + 6 * p + j) hR hL (by omega)) dX10_taken_56 ml_X10_156 ok_X10_sizeOf b0 (by decide) rfl rfl rfl (Nat.le_of_ble_eq_true rfl) (by decide) (by decide) (fun r S' hr => ?_)
                obtain ⟨rfl, rfl⟩ := hr
                refine z_aload_n F dX10_taken_59 rfl ?_
                refine z_bipush (v := nI 70) F dX10_taken_60 (by decide) ?_
                refine z_bipush (v := nI 6) F dX10_taken_62 (by decide) ?_
                refine z_iload F dX10_taken_64 rfl ?_
                refine z_imul F dX10_taken_66 ?_
                refine z_ti (pk_mul 6 cp) ?_
                refine z_iadd F dX10_taken_67 ?_
                refine z_ti (nI_add 70 _) ?_
                refine z_iload_n F dX10_taken_68 rfl ?_
                refine z_iadd F dX10_taken_69 ?_
                refine z_ti (nI_add _ _) ?_
                refine z_cVi F (m_sizeOf (f := 70 + 6 * cp + j) hR hL (by omega)) dX10_taken_70 ml_X10_156 ok_X10_sizeOf b0 (by decide) rfl rfl rfl (Nat.le_of_ble_eq_true rfl) (by decide) (by decide) (fun r S' hr => ?_)
                obtain ⟨rfl, rfl⟩ := hr
                rw [eT, eTc]
                refine z_icmp_ge (tgt := 80) F dX10_taken_73 (by decide) (fun c5 => ?_) (fun c5 => ?_)
                · have hs : ¬ fsz (M p j) < fsz (M cp j) := fun z => by have := (nI_leI (by omega) (by omega)).mp c5; omega
                  exact next (some cp) (by rw [if_neg h]; simp only [pick]; rw [if_neg (fun z => hs z.2)]) hb
                · have hs : fsz (M p j) < fsz (M cp j) := Nat.lt_of_not_le (fun z => c5 ((nI_leI (by omega) (by omega)).mpr z))
                  refine z_iload F dX10_taken_76 rfl ?_
                  refine z_istore_4 F dX10_taken_78 rfl ?_
                  exact next (some p) (by rw [if_neg h]; simp only [pick]; rw [if_pos ⟨hw, hs⟩]) (fun c hc => by cases hc; omega)
  refine z_bipush (v := (-6)) F dX10_taken_0 (by decide) ?_
  refine z_istore_4 F dX10_taken_2 rfl ?_
  refine z_iload_n F dX10_taken_4 rfl ?_
  refine z_istore_5 F dX10_taken_5 rfl ?_
  exact loop (n - t) t none (by omega) (fun c hc => by cases hc) rfl
set_option maxRecDepth 100000 in
set_option maxHeartbeats 1000000 in
theorem m_exchange {b t : Nat} {ro : Nat → Nat} (hR : mR Z a) (hn : 1 ≤ n ∧ n ≤ 5) (h2 : vI V 9 2 (a 0) = nI n) (hL : mL a V T L) (hC : mC n T M) (hb : b < n) (ht : t < n) (hro : ∀ p, p < n → vA V (a 9) p = nI (ro p)) : zCt Γ mX10_exchange 2 45 0 0 [.ref (a 0), .int (nI b), .int (nI t)] (Z, V) (pV (fun S' => ∃ V' T' L', S' = (Z, V') ∧ eA a (fun k => k = 1 ∨ k = 2 ∨ k = 9) V V' ∧ mL a V' T' L' ∧ tZ T T' ∧ mC n T' (swp M b t) ∧ ∀ p, p < n → vA V' (a 9) p = nI (swp ro b t p))) := by
  refine zCt.of [some (.ref (a 0)), some (.int (nI b)), some (.int (nI t)), none] pn_X10_exchange rfl (Nat.le_of_ble_eq_true rfl) rfl (fun κ F => ?_)
  obtain ⟨b0, b1, b2, b3, b4, b5, b6, b7, b8, b9, b10, b11⟩ := hR.1
  obtain ⟨r9, l9⟩ := hR.2.2.1 9 (by decide) (by decide)
  have inb := ix5 (i := b) (by omega) l9
  have int' := ix5 (i := t) (by omega) l9
  have clb : (nI b).toNatClampNeg = b := nI_clamp (by omega)
  have clt : (nI t).toNatClampNeg = t := nI_clamp (by omega)
  generalize hQ : zQ Γ κ (pV (fun S' => ∃ V' T' L', S' = (Z, V') ∧ eA a (fun k => k = 1 ∨ k = 2 ∨ k = 9) V V' ∧ mL a V' T' L' ∧ tZ T T' ∧ mC n T' (swp M b t) ∧ ∀ p, p < n → vA V' (a 9) p = nI (swp ro b t p))) 0 0 = Q
  have loop : ∀ (d k : Nat) (V1 : Hv) (T1 : Nat → Fr) (L1 : Nat → Nat), k + d = n + 1 → e2A a V V1 → mL a V1 T1 L1 → tZ T T1 → (∀ p c, p < n → c ≤ n → T1 (70 + 6 * p + c) = if c < k then swp M b t p c else M p c) → zX Γ κ (Z, V1) 0 0 Q 2 [some (.ref (a 0)), some (.int (nI b)), some (.int (nI t)), some (.int (nI k))] [] := by
    intro d
    induction d with
    | zero =>
      intro k V1 T1 L1 hk hE1 hL1 hT1 hc1
      have e2 : vI V1 9 2 (a 0) = nI n := by rw [hE1.i]; exact h2
      have e9 : vA V1 (a 9) = vA V (a 9) := hE1.ar hR (by decide) (by decide)
      refine z_iload_n F dX10_exchange_2 rfl ?_
      refine z_aload_n F dX10_exchange_3 rfl ?_
      refine z_getI F dX10_exchange_4 gi_X10_44 (by assumption) ?_
      refine z_ti e2 ?_
      refine z_icmp_gt (tgt := 68) F dX10_exchange_7 (by decide) (fun c0 => ?_) (fun c0 => ?_)
      · subst hQ
        have v1 : vA V1 (a 9) (nI b).toNatClampNeg = nI (ro b) := by rw [clb, e9]; exact hro b hb
        have v2 : vA V1 (a 9) (nI t).toNatClampNeg = nI (ro t) := by rw [clt, e9]; exact hro t ht
        refine z_aload_n F dX10_exchange_68 rfl ?_
        refine z_getR F dX10_exchange_69 gr_X10_35 (by assumption) (by assumption) ?_
        refine z_iload_n F dX10_exchange_72 rfl ?_
        refine z_iald F dX10_exchange_73 (by assumption) (by assumption) ?_
        refine z_ti v1 ?_
        refine z_istore_n_3 F dX10_exchange_74 rfl ?_
        refine z_aload_n F dX10_exchange_75 rfl ?_
        refine z_getR F dX10_exchange_76 gr_X10_35 (by assumption) (by assumption) ?_
        refine z_iload_n F dX10_exchange_79 rfl ?_
        refine z_aload_n F dX10_exchange_80 rfl ?_
        refine z_getR F dX10_exchange_81 gr_X10_35 (by assumption) (by assumption) ?_
        refine z_iload_n F dX10_exchange_84 rfl ?_
        refine z_iald F dX10_exchange_85 (by assumption) (by assumption) ?_
        refine z_ti v2 ?_
        refine z_iast F dX10_exchange_86 (by assumption) (by assumption) ?_
        refine z_aload_n F dX10_exchange_87 rfl ?_
        refine z_getR F dX10_exchange_88 gr_X10_35 (by assumption) (by assumption) ?_
        refine z_iload_n F dX10_exchange_91 rfl ?_
        refine z_iload_n F dX10_exchange_92 rfl ?_
        refine z_iast F dX10_exchange_93 (by assumption) (by assumption) ?_
        refine z_vret F dX10_exchange_94 rfl ⟨_, T1, L1, rfl, ((hE1.eA (Or.inl rfl) (Or.inr (Or.inl rfl))).trans (eA.set V1 _ (Or.inr (Or.inr rfl)))).trans (eA.set _ _ (Or.inr (Or.inr rfl))), (hL1.keep hR (by decide) (by decide)).keep hR (by decide) (by decide), hT1, fun p c hp hc => ?_, fun p hp => ?_⟩
        · rw [hc1 p c hp hc, if_pos (by omega)]
        · rw [vA_sA_self, vA_sA_self, clb, clt]
          unfold swp
          by_cases e1 : p = t
          · rw [e1, pk_us]
            by_cases e2 : t = b
            · rw [if_pos e2, e2]
            · rw [if_neg e2, if_pos rfl]
          · rw [pk_un e1]
            by_cases e2 : p = b
            · rw [e2, pk_us, if_pos rfl]
            · rw [pk_un e2, if_neg e2, if_neg e1, e9]; exact hro p hp
      · have : k ≤ n := Nat.le_of_not_lt (fun z => c0 ((nI_ltI (by omega) (by omega)).mpr z))
        omega
    | succ d ih =>
      intro k V1 T1 L1 hk hE1 hL1 hT1 hc1
      have e2 : vI V1 9 2 (a 0) = nI n := by rw [hE1.i]; exact h2
      have hkn : k ≤ n := by omega
      refine z_iload_n F dX10_exchange_2 rfl ?_
      refine z_aload_n F dX10_exchange_3 rfl ?_
      refine z_getI F dX10_exchange_4 gi_X10_44 (by assumption) ?_
      refine z_ti e2 ?_
      refine z_icmp_gt (tgt := 68) F dX10_exchange_7 (by decide) (fun c0 => ?_) (fun c0 => ?_)
      · exact absurd ((nI_ltI (by omega) (by omega)).mp c0) (by omega)
      · refine z_aload_n F dX10_exchange_10 rfl ?_
        refine z_bipush (v := nI 70) F dX10_exchange_11 (by decide) ?_
        refine z_bipush (v := nI 6) F dX10_exchange_13 (by decide) ?_
        refine z_iload_n F dX10_exchange_15 rfl ?_
        refine z_imul F dX10_exchange_16 ?_
        refine z_ti (pk_mul 6 b) ?_
        refine z_iadd F dX10_exchange_17 ?_
        refine z_ti (nI_add 70 _) ?_
        refine z_iload_n F dX10_exchange_18 rfl ?_
        refine z_iadd F dX10_exchange_19 ?_
        refine z_ti (nI_add _ _) ?_
        refine z_bipush (v := nI 106) F dX10_exchange_20 (by decide) ?_
        refine z_cVv F (m_same (f := 70 + 6 * b + k) (g := 106) hR hL1 (by omega) (by decide)) dX10_exchange_22 ml_X10_126 ok_X10_same b0 (by decide) rfl rfl rfl (Nat.le_of_ble_eq_true rfl) (by decide) (by decide) (fun S' hS' => ?_)
        obtain ⟨V2, L2, rfl, hE2, hL2⟩ := hS'
        refine z_aload_n F dX10_exchange_25 rfl ?_
        refine z_bipush (v := nI 70) F dX10_exchange_26 (by decide) ?_
        refine z_bipush (v := nI 6) F dX10_exchange_28 (by decide) ?_
        refine z_iload_n F dX10_exchange_30 rfl ?_
        refine z_imul F dX10_exchange_31 ?_
        refine z_ti (pk_mul 6 t) ?_
        refine z_iadd F dX10_exchange_32 ?_
        refine z_ti (nI_add 70 _) ?_
        refine z_iload_n F dX10_exchange_33 rfl ?_
        refine z_iadd F dX10_exchange_34 ?_
        refine z_ti (nI_add _ _) ?_
        refine z_bipush (v := nI 70) F dX10_exchange_35 (by decide) ?_
        refine z_bipush (v := nI 6) F dX10_exchange_37 (by decide) ?_
        refine z_iload_n F dX10_exchange_39 rfl ?_
        refine z_imul F dX10_exchange_40 ?_
        refine z_ti (pk_mul 6 b) ?_
        refine z_iadd F dX10_exchange_41 ?_
        refine z_ti (nI_add 70 _) ?_
        refine z_iload_n F dX10_exchange_42 rfl ?_
        refine z_iadd F dX10_exchange_43 ?_
        refine z_ti (nI_add _ _) ?_
        refine z_cVv F (m_same (f := 70 + 6 * t + k) (g := 70 + 6 * b + k) hR hL2 (by omega) (by omega)) dX10_exchange_44 ml_X10_126 ok_X10_same b0 (by decide) rfl rfl rfl (Nat.le_of_ble_eq_true rfl) (by decide) (by decide) (fun S' hS' => ?_)
        obtain ⟨V3, L3, rfl, hE3, hL3⟩ := hS'
        refine z_aload_n F dX10_exchange_47 rfl ?_
        refine z_bipush (v := nI 106) F dX10_exchange_48 (by decide) ?_
        refine z_bipush (v := nI 70) F dX10_exchange_50 (by decide) ?_
        refine z_bipush (v := nI 6) F dX10_exchange_52 (by decide) ?_
        refine z_iload_n F dX10_exchange_54 rfl ?_
        refine z_imul F dX10_exchange_55 ?_
        refine z_ti (pk_mul 6 t) ?_
        refine z_iadd F dX10_exchange_56 ?_
        refine z_ti (nI_add 70 _) ?_
        refine z_iload_n F dX10_exchange_57 rfl ?_
        refine z_iadd F dX10_exchange_58 ?_
        refine z_ti (nI_add _ _) ?_
        refine z_cVv F (m_same (f := 106) (g := 70 + 6 * t + k) hR hL3 (by decide) (by omega)) dX10_exchange_59 ml_X10_126 ok_X10_same b0 (by decide) rfl rfl rfl (Nat.le_of_ble_eq_true rfl) (by decide) (by decide) (fun S' hS' => ?_)
        obtain ⟨V4, L4, rfl, hE4, hL4⟩ := hS'
        refine z_iinc_3 F dX10_exchange_62 rfl ?_
        refine z_goto (tgt := 2) F dX10_exchange_65 (by decide) ?_
        rw [show nI k + Int32.ofInt 1 = nI (k + 1) from nI_1 k]
        refine ih (k + 1) V4 _ L4 (by omega) (((hE1.trans hE2).trans hE3).trans hE4) hL4 (((hT1.trans (tZ.up ?_)).trans (tZ.up ?_)).trans (tZ.up ?_)) (fun p c hp hc => ?_)
        · unfold scr; omega
        · unfold scr; omega
        · unfold scr; omega
        · rw [up_ne (j := 106) _ _ (by omega), up_self, up_ne (j := 70 + 6 * t + k) _ _ (by omega)]
          have q1 : T1 (70 + 6 * b + k) = M b k := by rw [hc1 b k hb hkn, if_neg (Nat.lt_irrefl k)]
          have q2 : T1 (70 + 6 * t + k) = M t k := by rw [hc1 t k ht hkn, if_neg (Nat.lt_irrefl k)]
          rw [q1, q2]
          by_cases ec : c = k
          · subst ec
            rw [if_pos (Nat.lt_succ_self _)]
            unfold swp
            by_cases e1 : p = t
            · rw [e1, up_self]
              by_cases e3 : t = b
              · rw [if_pos e3, e3]
              · rw [if_neg e3, if_pos rfl]
            · rw [up_ne _ _ (by omega)]
              by_cases e3 : p = b
              · rw [e3, up_self, if_pos rfl]
              · rw [up_ne _ _ (by omega), up_ne _ _ (by omega), if_neg e3, if_neg e1, hc1 p _ hp hc, if_neg (Nat.lt_irrefl _)]
          · rw [up_ne _ _ (by omega), up_ne _ _ (by omega), up_ne _ _ (by omega), hc1 p c hp hc]
            by_cases e4 : c < k
            · rw [if_pos e4, if_pos (by omega)]
            · rw [if_neg e4, if_neg (by omega)]
  refine z_iconst (v := nI 0) F dX10_exchange_0 (by decide) ?_
  refine z_istore_n_3 F dX10_exchange_1 rfl ?_
  exact loop (n + 1) 0 V T L (by omega) (eG.refl V) hL (tZ.refl T) (fun p c hp hc => by rw [if_neg (Nat.not_lt_zero c)]; exact hC p c hp hc)
end MOD14
