/-! ===== Text ===== -/
/-- figures and the sign '.', the last first -/
def figB (dg : Nat) : Nat → Nat → Nat → List Nat
  | 0, _, _ => []
  | f + 1, i, n => if i ≤ dg ∨ n ≠ 0 then (if i = dg ∧ 0 < dg then [46] else []) ++ (48 + n % 10) :: figB dg f (i + 1) (n / 10) else []
def decF (x : Fr) (dg : Nat) (up : Bool) : Nat := x.2.1 * 10 ^ dg / x.2.2 + (if x.2.1 * 10 ^ dg % x.2.2 ≠ 0 ∧ up ≠ x.1 then 1 else 0)
/-- THE TEXT, its last sign first -/
def decB (x : Fr) (dg : Nat) (up : Bool) : List Nat := figB dg 88 0 (decF x dg up) ++ (if x.1 = true ∧ decF x dg up ≠ 0 then [45] else [])
def tR (Z : Hz) (uo vo w : Nat → Nat) (Y A t1 t2 t3 ba : Nat) : Prop := (zIn Z Y 6 ∧ zR Z 6 0 Y = some A ∧ zR Z 6 1 Y = some t1 ∧ zR Z 6 2 Y = some t2 ∧ zR Z 6 3 Y = some t3 ∧ zR Z 6 4 Y = some ba) ∧ (xW Z uo vo w t1 ∧ xW Z uo vo w t2 ∧ xW Z uo vo w t3) ∧ (t1 ≠ t2 ∧ t1 ≠ t3 ∧ t2 ≠ t3) ∧ zIn Z ba 10 ∧ zn Z ba = 90
def tO (V : Hv) (Y ba : Nat) (bs : List Nat) : Prop := vI V 6 5 Y = nI bs.length ∧ (∀ i, i < bs.length → vA V ba i = nI (bs.getD i 0)) ∧ bs.length ≤ 90
def gX (Z : Hz) (Y ba : Nat) (V V' : Hv) : Prop := eG (fun ci k a => pI0 ci k a ∨ (ci = 6 ∧ a = Y)) (fun a => pA0 Z a ∨ a = ba) V V'
theorem nar7 : ∀ c, c < 128 → vp_nar .byte ((nI c).toInt8.toInt32) = nI c := by decide +kernel
section TEXT
variable {Γ : Gm} {Z : Hz} {V : Hv} {T : Nat → Fr} {X : Nat → Nat} {uo vo w : Nat → Nat} {A Y t1 t2 t3 ba q : Nat} {bs : List Nat}
theorem gX.ofF {V' : Hv} (h : eF Z V V') : gX Z Y ba V V' := h.g.mono (fun _ _ _ h => Or.inl h) (fun _ h => Or.inl h)
theorem npA10 (h : zIn Z ba 10) : ¬ pA0 Z ba := fun ⟨o, ho⟩ => by
  have h1 := ho.2.2.1.2
  rw [h.2] at h1
  exact absurd h1 (by decide)
theorem KS.setI6 {k : Nat} {x : Int32} (hK : KS Z uo vo w V T X) : KS Z uo vo w (sI V 6 k Y x) T X ∧ gX Z Y ba V (sI V 6 k Y x) := by
  have h : eG (fun ci k a => ci = 6 ∧ a = Y) (fun _ => False) V (sI V 6 k Y x) := eG.setI V x ⟨rfl, rfl⟩
  refine ⟨hK.keep h (fun ci k a z h9 => ?_) (fun a z => z.elim), h.mono (fun _ _ _ z => Or.inr z) (fun _ z => z.elim)⟩
  rcases h9 with h9 | h9 <;> (rw [z.1] at h9; exact absurd h9.1 (by decide))
theorem KS.setA6 {f : Nat → Int32} (hK : KS Z uo vo w V T X) (hb : zIn Z ba 10) : KS Z uo vo w (sA V ba f) T X ∧ gX Z Y ba V (sA V ba f) := by
  have h : eG (fun _ _ _ => False) (fun a => a = ba) V (sA V ba f) := eG.setA V f rfl
  exact ⟨hK.keep h (fun _ _ _ z => z.elim) (fun a z => by rw [z]; exact npA10 hb), h.mono (fun _ _ _ z => z.elim) (fun _ z => Or.inr z)⟩
theorem tO.keep {V' : Hv} (h : tO V Y ba bs) (hF : eF Z V V') (hb : zIn Z ba 10) : tO V' Y ba bs := by
  refine ⟨?_, ?_, h.2.2⟩
  · rw [hF.g.1 _ _ _ (fun h => by rcases h with h | h <;> exact absurd h.1 (by decide))]; exact h.1
  · rw [hF.g.2.1 ba (npA10 hb)]; exact h.2.1
set_option maxRecDepth 100000 in
theorem c_tAppend {c : Nat} (hK : KS Z uo vo w V T X) (hY : tR Z uo vo w Y A t1 t2 t3 ba) (hO : tO V Y ba bs) (hc : c < 128) (hl : bs.length < 90) : zCt Γ mX7_append 0 0 0 0 [.ref Y, .int (nI c)] (Z, V) (pV (fun S' => ∃ V', S' = (Z, V') ∧ KS Z uo vo w V' T X ∧ gX Z Y ba V V' ∧ tO V' Y ba (bs ++ [c]))) := by
  refine zCt.of [some (.ref Y), some (.int (nI c))] pn_X7_append rfl (Nat.le_of_ble_eq_true rfl) rfl (fun κ F => ?_)
  obtain ⟨⟨b0, b1, b2, b3, b4, b5⟩, -, -, hb, hn⟩ := id hY
  obtain ⟨h1, h2, h3⟩ := id hO
  have ib : vp_in (nI bs.length) (zn Z ba) := by rw [hn]; exact vp_in_nI hl (by decide)
  have cl : (nI bs.length).toNatClampNeg = bs.length := nI_clamp (by omega)
  obtain ⟨hK2, hG2⟩ := KS.setA6 (Y := Y) (f := upd (vA V ba) (nI bs.length).toNatClampNeg (vp_nar .byte ((nI c).toInt8.toInt32))) hK hb
  obtain ⟨hK3, hG3⟩ := KS.setI6 (Y := Y) (ba := ba) (k := 5) (x := nI (bs.length + 1)) hK2
  have hfin : tO (sI (sA V ba (upd (vA V ba) (nI bs.length).toNatClampNeg (vp_nar .byte ((nI c).toInt8.toInt32)))) 6 5 Y (nI (bs.length + 1))) Y ba (bs ++ [c]) := by
    refine ⟨?_, fun i hi => ?_, by simp; omega⟩
    · rw [vI_sI_self]; simp
    · show vA (sA V ba _) ba i = _
      rw [vA_sA_self, cl]
      simp at hi
      by_cases e : i = bs.length
      · subst e
        rw [pk_us, nar7 c hc]
        simp
      · rw [pk_un e, h2 i (by omega)]
        simp [List.getD_eq_getElem?_getD, List.getElem?_append_left (show i < bs.length by omega)]
  refine z_aload_n F dX7_append_0 rfl ?_
  refine z_getI F dX7_append_1 gi_X7_67 (by assumption) ?_
  refine z_ti h1 ?_
  refine z_aload_n F dX7_append_4 rfl ?_
  refine z_getR F dX7_append_5 gr_X7_22 (by assumption) (by assumption) ?_
  refine z_alen F dX7_append_8 hb (by decide) ?_
  refine z_ti (congrArg nI hn) ?_
  refine z_icmp_ge (tgt := 33) F dX7_append_9 (by decide) (fun cc => ?_) (fun cc => ?_)
  · exact absurd ((nI_leI (a := 90) (by omega) (by omega)).mp cc) (by omega)
  · refine z_aload_n F dX7_append_12 rfl ?_
    refine z_getR F dX7_append_13 gr_X7_22 (by assumption) (by assumption) ?_
    refine z_aload_n F dX7_append_16 rfl ?_
    refine z_getI F dX7_append_17 gi_X7_67 (by assumption) ?_
    refine z_ti h1 ?_
    refine z_iload_n F dX7_append_20 rfl ?_
    refine z_i2b F dX7_append_21 ?_
    refine z_bast F dX7_append_22 hb ib ?_
    refine z_aload_n F dX7_append_23 rfl ?_
    refine z_dup F dX7_append_24 rfl ?_
    refine z_getI F dX7_append_25 gi_X7_67 (by assumption) ?_
    refine z_ti h1 ?_
    refine z_iconst (v := nI 1) F dX7_append_28 (by decide) ?_
    refine z_iadd F dX7_append_29 ?_
    refine z_ti (nI_add _ _) ?_
    refine z_putI F dX7_append_30 pi_X7_67 (zf_6_5 _) (by assumption) ?_
    exact z_vret F dX7_append_33 rfl ⟨_, rfl, hK3, hG2.trans hG3, hfin⟩
theorem t10 {u d : Nat} (hu : u < 4294967296 ^ 6) (hd : d ≤ 30) : u * 10 ^ d < 4294967296 ^ 13 := by
  have h1 : 10 ^ d ≤ 10 ^ 30 := Nat.pow_le_pow_right (by decide) hd
  have h2 : u * 10 ^ d ≤ u * 10 ^ 30 := Nat.mul_le_mul_left u h1
  have h3 : u * 10 ^ 30 < 4294967296 ^ 6 * 10 ^ 30 := Nat.mul_lt_mul_of_pos_right hu (by decide)
  exact Nat.lt_of_le_of_lt h2 (Nat.lt_trans h3 (by decide +kernel))
set_option maxRecDepth 100000 in
set_option maxHeartbeats 2000000 in
theorem c_write {dg : Nat} {up : Bool} (hK : KS Z uo vo w V T X) (hJ : wInj Z) (hA : aR Z A w) (hS : fS Z uo vo w) (hY : tR Z uo vo w Y A t1 t2 t3 ba) (hq : zIn Z q 3) (hdg : dg ≤ 30) (h1 : X t1 = 1) : zCt Γ mX7_write 3 89 0 0 [.ref Y, .ref q, .int (nI dg), .int (zb up)] (Z, V) (pV (fun S' => ∃ V' X', S' = (Z, V') ∧ KS Z uo vo w V' T X' ∧ gX Z Y ba V V' ∧ (∀ o, o ≠ t2 → o ≠ t3 → X' o = X o) ∧ tO V' Y ba (decB (T q) dg up))) := by
  refine zCt.of [some (.ref Y), some (.ref q), some (.int (nI dg)), some (.int (zb up)), none, none] pn_X7_write rfl (Nat.le_of_ble_eq_true rfl) rfl (fun κ F => ?_)
  obtain ⟨⟨b0, b1, b2, b3, b4, b5⟩, ⟨w1, w2, w3⟩, ⟨n12, n13, n23⟩, hb, hn⟩ := id hY
  obtain ⟨val, bel, hC, hT, hX⟩ := id hK
  obtain ⟨f0', f1', f2', f3', f4'⟩ := (hS.1 q hq).1
  obtain ⟨eT, okT⟩ := hT q hq
  have o2 : zIn Z t2 7 := by obtain ⟨g, hg⟩ := w2.1; exact hg.1
  have o3 : zIn Z t3 7 := by obtain ⟨g, hg⟩ := w3.1; exact hg.1
  obtain ⟨xq, hxq⟩ : ∃ x, x = T q := ⟨_, rfl⟩
  rw [← hxq] at okT ⊢
  have hu6 : xq.2.1 < 4294967296 ^ 6 := okT.2.1
  have nv2 : vo q ≠ t2 := fun e => (w2.2.2 q hq).2 e.symm
  have nv3 : vo q ≠ t3 := fun e => (w3.2.2 q hq).2 e.symm
  have bq : ∀ {V1 : Hv}, KS Z uo vo w V1 T X → True := fun _ => trivial
  have sgn : ∀ {V1 : Hv} {X1 : Nat → Nat}, KS Z uo vo w V1 T X1 → vI V1 3 2 q = zb xq.1 := by
    rintro V1 X1 ⟨val1, bel1, hC1, hT1, -⟩
    rw [hC1.2 q hq, hxq, ← (hT1 q hq).1]
  generalize hQ : zQ Γ κ (pV (fun S' => ∃ V' X', S' = (Z, V') ∧ KS Z uo vo w V' T X' ∧ gX Z Y ba V V' ∧ (∀ o, o ≠ t2 → o ≠ t3 → X' o = X o) ∧ tO V' Y ba (decB xq dg up))) 0 0 = Q
  -- the sign at the end
  have fin : ∀ (V1 : Hv) (X1 : Nat → Nat) (bs : List Nat) (isb : Bool) (l5 : Option Value), KS Z uo vo w V1 T X1 → gX Z Y ba V V1 → (∀ o, o ≠ t2 → o ≠ t3 → X1 o = X o) → tO V1 Y ba bs → bs.length ≤ 89 → bs ++ (if isb = true then [45] else []) = decB xq dg up → zX Γ κ (Z, V1) 0 0 Q 176 [some (.ref Y), some (.ref q), some (.int (nI dg)), some (.int (zb up)), some (.int (zb isb)), l5] [] := by
    intro V1 X1 bs isb l5 hK1 hG1 hX1 hO1 hl hsp
    refine z_iload F dX7_write_176 rfl ?_
    refine z_if_eq (tgt := 187) F dX7_write_178 (by decide) (fun c => ?_) (fun c => ?_)
    · rw [if_neg (zb_f c), List.append_nil] at hsp
      subst hQ
      exact z_vret F dX7_write_187 rfl ⟨V1, X1, rfl, hK1, hG1, hX1, by rw [← hsp]; exact hO1⟩
    · rw [if_pos (zb_t c)] at hsp
      refine z_aload_n F dX7_write_181 rfl ?_
      refine z_bipush (v := nI 45) F dX7_write_182 (by decide) ?_
      refine z_cVv F (c_tAppend (c := 45) hK1 hY hO1 (by decide) (by omega)) dX7_write_184 ml_X7_71 ok_X7_append b0 (by decide) rfl rfl rfl (Nat.le_of_ble_eq_true rfl) (by decide) (by decide) (fun S' hS' => ?_)
      obtain ⟨V2, rfl, hK2, hG2, hO2⟩ := hS'
      subst hQ
      exact z_vret F dX7_write_187 rfl ⟨V2, X1, rfl, hK2, hG1.trans hG2, hX1, by rw [← hsp]; exact hO2⟩
  -- the figures
  have loop : ∀ (d i n : Nat) (V1 : Hv) (X1 : Nat → Nat) (bs : List Nat) (isb : Bool), i + d = 88 → KS Z uo vo w V1 T X1 → gX Z Y ba V V1 → (∀ o, o ≠ t2 → o ≠ t3 → X1 o = X o) → X1 t3 = n → tO V1 Y ba bs → bs.length ≤ i + 1 → (i ≤ dg → bs.length ≤ i) → bs ++ figB dg d i n ++ (if isb = true then [45] else []) = decB xq dg up → zX Γ κ (Z, V1) 0 0 Q 115 [some (.ref Y), some (.ref q), some (.int (nI dg)), some (.int (zb up)), some (.int (zb isb)), some (.int (nI i))] [] := by
    intro d
    induction d with
    | zero =>
      intro i n V1 X1 bs isb hi hK1 hG1 hX1 hn1 hO1 hl1 hl2 hsp
      refine z_iload F dX7_write_115 rfl ?_
      refine z_bipush (v := nI 88) F dX7_write_117 (by decide) ?_
      refine z_icmp_ge (tgt := 176) F dX7_write_119 (by decide) (fun c => ?_) (fun c => ?_)
      · simp only [figB, List.append_nil] at hsp
        exact fin V1 X1 bs isb _ hK1 hG1 hX1 hO1 (by omega) hsp
      · exact absurd (nI_le (a := 88) (by omega) (by omega)) c
    | succ d ih =>
      intro i n V1 X1 bs isb hi hK1 hG1 hX1 hn1 hO1 hl1 hl2 hsp
      simp only [figB] at hsp
      have h3 : gW Z uo vo w T X1 t3 n := Or.inl ⟨w3, hn1⟩
      -- a figure
      have fig : ∀ (V2 : Hv) (bs2 : List Nat), KS Z uo vo w V2 T X1 → gX Z Y ba V V2 → tO V2 Y ba bs2 → bs2.length ≤ i + 1 → (i < dg → bs2.length ≤ i) → bs2 ++ (48 + n % 10) :: figB dg d (i + 1) (n / 10) ++ (if isb = true then [45] else []) = decB xq dg up → zX Γ κ (Z, V2) 0 0 Q 154 [some (.ref Y), some (.ref q), some (.int (nI dg)), some (.int (zb up)), some (.int (zb isb)), some (.int (nI i))] [] := by
        intro V2 bs2 hK2 hG2 hO2 hb1 hb2 hs2
        have hm10 := Nat.mod_lt n (show 0 < 10 by decide)
        refine z_aload_n F dX7_write_154 rfl ?_
        refine z_bipush (v := nI 48) F dX7_write_155 (by decide) ?_
        refine z_aload_n F dX7_write_157 rfl ?_
        refine z_getR F dX7_write_158 gr_X7_19 (by assumption) (by assumption) ?_
        refine z_bipush (v := nI 10) F dX7_write_161 (by decide) ?_
        refine z_cVi F (K_shrinkBy (p := 10) hK2 hJ hS w3 (by decide) (by decide)) dX7_write_163 ml_X7_74 ok_X8_shrinkBy o3 (by decide) rfl rfl rfl (Nat.le_of_ble_eq_true rfl) (by decide) (by decide) (fun r S' hr => ?_)
        obtain ⟨rfl, V3, rfl, hK3, hF3⟩ := hr
        rw [hn1] at hK3 ⊢
        have hO3 := hO2.keep hF3 hb
        refine z_iadd F dX7_write_166 ?_
        refine z_ti (nI_add _ _) ?_
        refine z_cVv F (c_tAppend (c := 48 + n % 10) hK3 hY hO3 (by omega) (by omega)) dX7_write_167 ml_X7_71 ok_X7_append b0 (by decide) rfl rfl rfl (Nat.le_of_ble_eq_true rfl) (by decide) (by decide) (fun S' hS' => ?_)
        obtain ⟨V4, rfl, hK4, hG4, hO4⟩ := hS'
        refine z_iinc_5 F dX7_write_170 rfl ?_
        refine z_goto (tgt := 115) F dX7_write_173 (by decide) ?_
        rw [show nI i + Int32.ofInt 1 = nI (i + 1) from nI_1 i]
        refine ih (i + 1) (n / 10) V4 _ (bs2 ++ [48 + n % 10]) isb (by omega) hK4 ((hG2.trans (gX.ofF hF3)).trans hG4) (fun o e2 e3 => by rw [up_ne _ _ e3]; exact hX1 o e2 e3) (up_self _ _ _) hO4 (by simp; omega) (fun h => by simp; exact hb2 (by omega)) ?_
        rw [← hs2]
        simp
      have dot : (i ≤ dg ∨ n ≠ 0) → zX Γ κ (Z, V1) 0 0 Q 138 [some (.ref Y), some (.ref q), some (.int (nI dg)), some (.int (zb up)), some (.int (zb isb)), some (.int (nI i))] [] := by
        intro hgo
        rw [if_pos hgo] at hsp
        have nodot : ¬ (i = dg ∧ 0 < dg) → zX Γ κ (Z, V1) 0 0 Q 154 [some (.ref Y), some (.ref q), some (.int (nI dg)), some (.int (zb up)), some (.int (zb isb)), some (.int (nI i))] [] := by
          intro hno
          rw [if_neg hno, List.nil_append] at hsp
          exact fig V1 bs hK1 hG1 hO1 (by omega) (fun h => hl2 (by omega)) hsp
        refine z_iload F dX7_write_138 rfl ?_
        refine z_iload_n F dX7_write_140 rfl ?_
        refine z_icmp_ne (tgt := 154) F dX7_write_141 (by decide) (fun c => ?_) (fun c => ?_)
        · exact nodot (fun z => c (congrArg nI z.1))
        · have e : i = dg := (nI_eq (by omega) (by omega)).mp c
          refine z_iload_n F dX7_write_144 rfl ?_
          refine z_if_le (tgt := 154) F dX7_write_145 (by decide) (fun c2 => ?_) (fun c2 => ?_)
          · have := (nI_le0 (by omega)).mp c2
            exact nodot (fun z => by omega)
          · have h0 : 0 < dg := by
              rcases Nat.eq_zero_or_pos dg with z | z
              · exact absurd ((nI_le0 (by omega)).mpr z) c2
              · exact z
            rw [if_pos ⟨e, h0⟩] at hsp
            refine z_aload_n F dX7_write_148 rfl ?_
            refine z_bipush (v := nI 46) F dX7_write_149 (by decide) ?_
            refine z_cVv F (c_tAppend (c := 46) hK1 hY hO1 (by decide) (by omega)) dX7_write_151 ml_X7_71 ok_X7_append b0 (by decide) rfl rfl rfl (Nat.le_of_ble_eq_true rfl) (by decide) (by decide) (fun S' hS' => ?_)
            obtain ⟨V2, rfl, hK2, hG2, hO2⟩ := hS'
            have hlb := hl2 (by omega)
            exact fig V2 (bs ++ [46]) hK2 (hG1.trans hG2) hO2 (by simp; omega) (fun h => by omega) (by rw [← hsp]; simp)
      refine z_iload F dX7_write_115 rfl ?_
      refine z_bipush (v := nI 88) F dX7_write_117 (by decide) ?_
      refine z_icmp_ge (tgt := 176) F dX7_write_119 (by decide) (fun c => ?_) (fun c => ?_)
      · exact absurd ((nI_leI (a := 88) (by omega) (by omega)).mp c) (by omega)
      · refine z_iload F dX7_write_122 rfl ?_
        refine z_iload_n F dX7_write_124 rfl ?_
        refine z_icmp_le (tgt := 138) F dX7_write_125 (by decide) (fun c2 => ?_) (fun c2 => ?_)
        · exact dot (Or.inl ((nI_leI (by omega) (by omega)).mp c2))
        · have hgt : ¬ i ≤ dg := fun z => c2 ((nI_leI (by omega) (by omega)).mpr z)
          refine z_aload_n F dX7_write_128 rfl ?_
          refine z_getR F dX7_write_129 gr_X7_19 (by assumption) (by assumption) ?_
          refine z_cVz F (K_wIsZero hK1 hS h3) dX7_write_132 ml_X7_56 ok_X8_isZero o3 (by decide) rfl rfl rfl (Nat.le_of_ble_eq_true rfl) (by decide) (by decide) (fun r S' hr => ?_)
          obtain ⟨rfl, rfl⟩ := hr
          refine z_if_ne (tgt := 176) F dX7_write_135 (by decide) (fun c3 => ?_) (fun c3 => ?_)
          · have hz := dz_t c3
            rw [if_neg (fun z => by rcases z with z | z; exact hgt z; exact z hz), List.append_nil] at hsp
            exact fin V1 X1 bs isb _ hK1 hG1 hX1 hO1 (by omega) hsp
          · exact dot (Or.inr (dz_f c3))
  -- behind the division
  have mid : ∀ (V1 : Hv) (X1 : Nat → Nat) (l4 : Option Value), KS Z uo vo w V1 T X1 → gX Z Y ba V V1 → (∀ o, o ≠ t2 → o ≠ t3 → X1 o = X o) → X1 t3 = decF xq dg up → zX Γ κ (Z, V1) 0 0 Q 83 [some (.ref Y), some (.ref q), some (.int (nI dg)), some (.int (zb up)), l4, none] [] := by
    intro V1 X1 l4 hK1 hG1 hX1 h3
    have g3 : gW Z uo vo w T X1 t3 (decF xq dg up) := Or.inl ⟨w3, h3⟩
    have go : ∀ (isb : Bool), isb = decide (xq.1 = true ∧ decF xq dg up ≠ 0) → zX Γ κ (Z, V1) 0 0 Q 105 [some (.ref Y), some (.ref q), some (.int (nI dg)), some (.int (zb up)), l4, none] [.int (zb isb)] := by
      intro isb hisb
      obtain ⟨hK2, hG2⟩ := KS.setI6 (Y := Y) (ba := ba) (k := 5) (x := nI 0) hK1
      refine z_istore_4 F dX7_write_105 rfl ?_
      refine z_aload_n F dX7_write_107 rfl ?_
      refine z_iconst (v := nI 0) F dX7_write_108 (by decide) ?_
      refine z_putI F dX7_write_109 pi_X7_67 (zf_6_5 _) (by assumption) ?_
      refine z_iconst (v := nI 0) F dX7_write_112 (by decide) ?_
      refine z_istore_5 F dX7_write_113 rfl ?_
      refine loop 88 0 (decF xq dg up) _ X1 [] isb rfl hK2 (hG1.trans hG2) hX1 h3 ⟨vI_sI_self _ _ _ _ _, fun i hi => absurd hi (Nat.not_lt_zero i), by decide⟩ (Nat.zero_le _) (fun _ => Nat.le_refl _) ?_
      rw [List.nil_append]
      unfold decB
      congr 1
      rw [hisb]
      by_cases hh : xq.1 = true ∧ decF xq dg up ≠ 0
      · rw [if_pos hh, if_pos (decide_eq_true hh)]
      · rw [if_neg hh, if_neg (fun z => hh (of_decide_eq_true z))]
    refine z_aload_n F dX7_write_83 rfl ?_
    refine z_getI F dX7_write_84 gi_X7_60 (by assumption) ?_
    refine z_ti (sgn hK1) ?_
    refine z_if_eq (tgt := 104) F dX7_write_87 (by decide) (fun c => ?_) (fun c => ?_)
    · have h := zb_f c
      refine z_iconst (v := nI 0) F dX7_write_104 (by decide) ?_
      exact go false (decide_eq_false (fun z => h z.1)).symm
    · have h := zb_t c
      refine z_aload_n F dX7_write_90 rfl ?_
      refine z_getR F dX7_write_91 gr_X7_19 (by assumption) (by assumption) ?_
      refine z_cVz F (K_wIsZero hK1 hS g3) dX7_write_94 ml_X7_56 ok_X8_isZero o3 (by decide) rfl rfl rfl (Nat.le_of_ble_eq_true rfl) (by decide) (by decide) (fun r S' hr => ?_)
      obtain ⟨rfl, rfl⟩ := hr
      refine z_if_ne (tgt := 104) F dX7_write_97 (by decide) (fun c2 => ?_) (fun c2 => ?_)
      · have hz := dz_t c2
        refine z_iconst (v := nI 0) F dX7_write_104 (by decide) ?_
        exact go false (decide_eq_false (fun z => z.2 hz)).symm
      · have hz := dz_f c2
        refine z_iconst (v := nI 1) F dX7_write_100 (by decide) ?_
        refine z_goto (tgt := 105) F dX7_write_101 (by decide) ?_
        exact go true (decide_eq_true ⟨h, hz⟩).symm
  have scale : ∀ (d i : Nat) (V1 : Hv) (X1 : Nat → Nat), i + d = dg → KS Z uo vo w V1 T X1 → eF Z V V1 → (∀ o, o ≠ t2 → o ≠ t3 → X1 o = X o) → X1 t2 = xq.2.1 * 10 ^ i → zX Γ κ (Z, V1) 0 0 Q 14 [some (.ref Y), some (.ref q), some (.int (nI dg)), some (.int (zb up)), some (.int (nI i)), none] [] := by
    intro d
    induction d with
    | zero =>
      intro i V1 X1 hi hK1 hF1 hX1 h2
      have e : i = dg := by omega
      subst e
      have gv : gW Z uo vo w T X1 (vo q) xq.2.2 := Or.inr ⟨q, hq, Or.inr ⟨rfl, by rw [hxq]⟩⟩
      refine z_iload F dX7_write_14 rfl ?_
      refine z_iload_n F dX7_write_16 rfl ?_
      refine z_icmp_ge (tgt := 35) F dX7_write_17 (by decide) (fun c => ?_) (fun c => ?_)
      · refine z_aload_n F dX7_write_35 rfl ?_
        refine z_getR F dX7_write_36 gr_X7_26 (by assumption) (by assumption) ?_
        refine z_aload_n F dX7_write_39 rfl ?_
        refine z_getR F dX7_write_40 gr_X7_16 (by assumption) (by assumption) ?_
        refine z_aload_n F dX7_write_43 rfl ?_
        refine z_getR F dX7_write_44 gr_X7_47 (by assumption) (by assumption) ?_
        refine z_aload_n F dX7_write_47 rfl ?_
        refine z_getR F dX7_write_48 gr_X7_19 (by assumption) (by assumption) ?_
        refine z_cVv F (K_divide hK1 hJ hA hS w2 gv w3 nv2.symm n23 nv3 (by rw [h2]; exact Nat.lt_trans (t10 hu6 hdg) (Nat.pow_lt_pow_right (by decide) (by decide)))) dX7_write_51 ml_X7_50 ok_X0_divide hA.1 (by decide) rfl rfl rfl (Nat.le_of_ble_eq_true rfl) (by decide) (by decide) (fun S' hS' => ?_)
        obtain ⟨V2, rfl, hK2, hF2⟩ := hS'
        rw [h2] at hK2
        generalize hX2 : va_up (va_up X1 t2 (xq.2.1 * 10 ^ i % xq.2.2)) t3 (xq.2.1 * 10 ^ i / xq.2.2) = X2 at hK2
        have x22 : X2 t2 = xq.2.1 * 10 ^ i % xq.2.2 := by rw [← hX2, up_ne _ _ n23, up_self]
        have x23 : X2 t3 = xq.2.1 * 10 ^ i / xq.2.2 := by rw [← hX2, up_self]
        have x2n : ∀ o, o ≠ t2 → o ≠ t3 → X2 o = X o := fun o e2 e3 => by rw [← hX2, up_ne _ _ e3, up_ne _ _ e2]; exact hX1 o e2 e3
        have g2 : gW Z uo vo w T X2 t2 (xq.2.1 * 10 ^ i % xq.2.2) := Or.inl ⟨w2, x22⟩
        have hG2 : gX Z Y ba V V2 := gX.ofF (hF1.trans hF2)
        refine z_aload_n F dX7_write_54 rfl ?_
        refine z_getR F dX7_write_55 gr_X7_16 (by assumption) (by assumption) ?_
        refine z_cVz F (K_wIsZero hK2 hS g2) dX7_write_58 ml_X7_56 ok_X8_isZero o2 (by decide) rfl rfl rfl (Nat.le_of_ble_eq_true rfl) (by decide) (by decide) (fun r S' hr => ?_)
        obtain ⟨rfl, rfl⟩ := hr
        refine z_if_ne (tgt := 83) F dX7_write_61 (by decide) (fun c2 => ?_) (fun c2 => ?_)
        · have hz := dz_t c2
          refine mid V2 X2 _ hK2 hG2 x2n ?_
          rw [x23]
          unfold decF
          rw [if_neg (fun z => z.1 hz), Nat.add_zero]
        · have hz := dz_f c2
          refine z_iload_n F dX7_write_64 rfl ?_
          refine z_aload_n F dX7_write_65 rfl ?_
          refine z_getI F dX7_write_66 gi_X7_60 (by assumption) ?_
          refine z_ti (sgn hK2) ?_
          refine z_icmp_eq (tgt := 83) F dX7_write_69 (by decide) (fun c3 => ?_) (fun c3 => ?_)
          · have he := (zb_cmp _ _).mp c3
            refine mid V2 X2 _ hK2 hG2 x2n ?_
            rw [x23]
            unfold decF
            rw [if_neg (fun z => z.2 he), Nat.add_zero]
          · have he : up ≠ xq.1 := fun z => c3 ((zb_cmp _ _).mpr z)
            have g1 : gW Z uo vo w T X2 t1 1 := Or.inl ⟨w1, by rw [x2n t1 n12 n13]; exact h1⟩
            have hs : X2 t3 + 1 < 4294967296 ^ 16 := by
              rw [x23]
              have h9 : xq.2.1 * 10 ^ i / xq.2.2 < 4294967296 ^ 13 := Nat.lt_of_le_of_lt (Nat.div_le_self _ _) (t10 hu6 hdg)
              exact Nat.lt_of_le_of_lt h9 (Nat.pow_lt_pow_right (by decide) (by decide))
            refine z_aload_n F dX7_write_72 rfl ?_
            refine z_getR F dX7_write_73 gr_X7_19 (by assumption) (by assumption) ?_
            refine z_aload_n F dX7_write_76 rfl ?_
            refine z_getR F dX7_write_77 gr_X7_10 (by assumption) (by assumption) ?_
            refine z_cVv F (K_increase hK2 hJ hS w3 g1 n13 hs) dX7_write_80 ml_X7_64 ok_X8_increase o3 (by decide) rfl rfl rfl (Nat.le_of_ble_eq_true rfl) (by decide) (by decide) (fun S' hS' => ?_)
            obtain ⟨V3, rfl, hK3, hF3⟩ := hS'
            rw [x23] at hK3
            refine mid V3 _ _ hK3 (hG2.trans (gX.ofF hF3)) (fun o e2 e3 => by rw [up_ne _ _ e3]; exact x2n o e2 e3) ?_
            rw [up_self]
            unfold decF
            rw [if_pos ⟨hz, he⟩]
      · exact absurd (nI_le (by omega) (by omega)) c
    | succ d ih =>
      intro i V1 X1 hi hK1 hF1 hX1 h2
      refine z_iload F dX7_write_14 rfl ?_
      refine z_iload_n F dX7_write_16 rfl ?_
      refine z_icmp_ge (tgt := 35) F dX7_write_17 (by decide) (fun c => ?_) (fun c => ?_)
      · exact absurd ((nI_leI (by omega) (by omega)).mp c) (by omega)
      · have hs : X1 t2 * 10 < 4294967296 ^ 16 := by
          rw [h2, Nat.mul_assoc, ← Nat.pow_succ]
          exact Nat.lt_trans (t10 hu6 (by omega)) (Nat.pow_lt_pow_right (by decide) (by decide))
        refine z_aload_n F dX7_write_20 rfl ?_
        refine z_getR F dX7_write_21 gr_X7_16 (by assumption) (by assumption) ?_
        refine z_bipush (v := nI 10) F dX7_write_24 (by decide) ?_
        refine z_cVv F (K_scale (k := 10) hK1 hJ hS w2 (by decide) hs) dX7_write_26 ml_X7_43 ok_X8_scale o2 (by decide) rfl rfl rfl (Nat.le_of_ble_eq_true rfl) (by decide) (by decide) (fun S' hS' => ?_)
        obtain ⟨V2, rfl, hK2, hF2⟩ := hS'
        refine z_iinc_4 F dX7_write_29 rfl ?_
        refine z_goto (tgt := 14) F dX7_write_32 (by decide) ?_
        rw [show nI i + Int32.ofInt 1 = nI (i + 1) from nI_1 i]
        refine ih (i + 1) V2 _ (by omega) hK2 (hF1.trans hF2) (fun o e2 e3 => by rw [up_ne _ _ e2]; exact hX1 o e2 e3) ?_
        rw [up_self, h2, Nat.pow_succ, Nat.mul_assoc]
  have gu : gW Z uo vo w T X (uo q) xq.2.1 := Or.inr ⟨q, hq, Or.inl ⟨rfl, by rw [hxq]⟩⟩
  refine z_aload_n F dX7_write_0 rfl ?_
  refine z_getR F dX7_write_1 gr_X7_16 (by assumption) (by assumption) ?_
  refine z_aload_n F dX7_write_4 rfl ?_
  refine z_getR F dX7_write_5 gr_X7_34 (by assumption) (by assumption) ?_
  refine z_cVv F (K_wcopy hK hJ hS w2 gu) dX7_write_8 ml_X7_39 ok_X8_copy o2 (by decide) rfl rfl rfl (Nat.le_of_ble_eq_true rfl) (by decide) (by decide) (fun S' hS' => ?_)
  obtain ⟨V1, rfl, hK1, hF1⟩ := hS'
  refine z_iconst (v := nI 0) F dX7_write_11 (by decide) ?_
  refine z_istore_4 F dX7_write_12 rfl ?_
  exact scale dg 0 V1 _ (by omega) hK1 hF1 (fun o e2 _ => up_ne _ _ e2) (by rw [up_self, Nat.pow_zero, Nat.mul_one])
end TEXT
