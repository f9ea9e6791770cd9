/-! ===== FractionRowsModel: say, decimals ===== -/
/-- the last i signs, the last first -/
def prx (dg N : Nat) : Nat → List Nat
  | 0 => []
  | i + 1 => prx dg N i ++ ((if i = dg ∧ 0 < dg then [46] else []) ++ [48 + N / 10 ^ i % 10])
theorem prx_len (dg N : Nat) : ∀ i, (prx dg N i).length ≤ i + (if dg < i then 1 else 0)
  | 0 => by simp [prx]
  | i + 1 => by
    have ih := prx_len dg N i
    simp only [prx, List.length_append, List.length_cons, List.length_nil]
    by_cases h : i = dg ∧ 0 < dg
    · rw [if_pos h]
      rw [if_neg (by omega)] at ih
      rw [if_pos (by omega)]
      simp only [List.length_cons, List.length_nil]
      omega
    · rw [if_neg h]
      simp only [List.length_nil]
      by_cases h2 : dg < i
      · rw [if_pos h2] at ih
        rw [if_pos (by omega)]
        omega
      · rw [if_neg h2] at ih
        split <;> omega
theorem figB_s (dg f i n : Nat) (h : i ≤ dg ∨ n ≠ 0) : figB dg (f + 1) i n = ((if i = dg ∧ 0 < dg then [46] else []) ++ [48 + n % 10]) ++ figB dg f (i + 1) (n / 10) := by
  show (if i ≤ dg ∨ n ≠ 0 then _ else _) = _
  rw [if_pos h, List.append_assoc]
  rfl
theorem figB_e (dg f i n : Nat) (h : ¬ (i ≤ dg ∨ n ≠ 0)) : figB dg f i n = [] := by
  cases f with
  | zero => rfl
  | succ f =>
    show (if i ≤ dg ∨ n ≠ 0 then _ else _) = _
    rw [if_neg h]
theorem p1088 : 4294967296 ^ 6 * 10 ^ 30 < 10 ^ 88 := by decide
theorem p1016 : 10 * (4294967296 ^ 6 * 10 ^ 30) < 268435456 ^ 16 := by decide
theorem dec_lt {u dg : Nat} (hu : u < 4294967296 ^ 6) (hd : dg ≤ 30) : u * 10 ^ dg < 4294967296 ^ 6 * 10 ^ 30 := by
  have h1 : (10 : Nat) ^ dg ≤ 10 ^ 30 := Nat.pow_le_pow_right (by decide) hd
  exact Nat.lt_of_le_of_lt (Nat.mul_le_mul_left u h1) (Nat.mul_lt_mul_of_pos_right hu (Nat.pow_pos (by decide)))
theorem decF_lt {x : Fr} {dg : Nat} {up : Bool} (hx : fok x) (hd : dg ≤ 30) : decF x dg up < 10 ^ 88 := by
  have h1 := dec_lt hx.2.1 hd
  have h2 : x.2.1 * 10 ^ dg / x.2.2 ≤ x.2.1 * 10 ^ dg := Nat.div_le_self _ _
  have h3 := p1088
  unfold decF
  generalize x.2.1 * 10 ^ dg / x.2.2 = q at *
  generalize x.2.1 * 10 ^ dg = w at *
  generalize (4294967296 ^ 6 * 10 ^ 30 : Nat) = B1 at *
  generalize (10 ^ 88 : Nat) = B2 at *
  split <;> omega
theorem i88 {N i : Nat} (hN : N < 10 ^ 88) (h : N / 10 ^ i ≠ 0) : i < 88 := by
  rcases Nat.lt_or_ge i 88 with z | z
  · exact z
  · have h1 : (10 : Nat) ^ 88 ≤ 10 ^ i := Nat.pow_le_pow_right (by decide) z
    exact absurd (Nat.div_eq_of_lt (Nat.lt_of_lt_of_le hN h1)) h
section MOD22
variable {Γ : Gm} {Z : Hz} {V V1 V2 : Hv} {a : Nat → Nat} {L : Nat → Nat} {T : Nat → Fr} {f n : Nat} {s : St} {bs : List Nat}
/-- what is made on the way to a text -/
def dK (a : Nat → Nat) (V V' : Hv) : Prop := (∀ k, k ≠ 20 → vI V' 9 k (a 0) = vI V 9 k (a 0)) ∧ (∀ k, 3 ≤ k → k ≤ 5 → vA V' (a k) = vA V (a k)) ∧ gM a V V'
theorem dK.trans (h1 : dK a V V1) (h2 : dK a V1 V2) : dK a V V2 := ⟨fun k hk => (h2.1 k hk).trans (h1.1 k hk), fun k h3 h4 => (h2.2.1 k h3 h4).trans (h1.2.1 k h3 h4), h1.2.2.trans h2.2.2⟩
theorem dK.m (hR : mR Z a) (h : e2A a V V1) : dK a V V1 := ⟨fun k _ => h.i 9 k (a 0), fun k h1 h2 => h.ar hR h1 (by omega), gM.ofM h⟩
set_option maxRecDepth 100000 in
theorem m_say {c : Nat} (hR : mR Z a) (hL : mL a V T L) (hx : rMx a V bs) (hl : bs.length < 120) : zCt Γ mX10_say 0 0 0 0 [.ref (a 0), .int (nI c)] (Z, V) (pV (fun S' => ∃ V', S' = (Z, V') ∧ dK a V V' ∧ mL a V' T L ∧ vA V' (a 11) = vA V (a 11) ∧ rMx a V' (c :: bs))) := by
  refine zCt.of [some (.ref (a 0)), some (.int (nI c))] pn_X10_say rfl (Nat.le_of_ble_eq_true rfl) rfl (fun κ F => ?_)
  obtain ⟨b0, b1, b2, b3, b4, b5, b6, b7, b8, b9, b10, b11⟩ := hR.1
  obtain ⟨d1, d2, -⟩ := hR.2.2.2.1
  obtain ⟨x1, x2, x3⟩ := hx
  have inl : vp_in (nI bs.length) (zn Z (a 10)) := by rw [d2]; exact vp_in_nI hl (by decide)
  have cl : (nI bs.length).toNatClampNeg = bs.length := nI_clamp (by omega)
  obtain ⟨V3, hV3⟩ : ∃ V3, V3 = sA V (a 10) (upd (vA V (a 10)) bs.length (nI c)) := ⟨_, rfl⟩
  obtain ⟨V4, hV4⟩ : ∃ V4, V4 = sI V3 9 20 (a 0) (nI (bs.length + 1)) := ⟨_, rfl⟩
  have x13 : vI V3 9 20 (a 0) = nI bs.length := by rw [hV3]; exact x1
  have hd : dK a V V4 := by
    refine ⟨fun k hk => ?_, fun k h1 h2 => ?_, ?_⟩
    · rw [hV4, vI9 _ hk, hV3]; rfl
    · rw [hV4, hV3]
      exact vA_sA_ne _ _ (hR.ne (by omega) (by omega) (by decide) (by decide) (by omega))
    · rw [hV4, hV3]
      exact (gM.setA V (k := 10) _ (by decide) (by decide)).trans (gM.setI _ _ _)
  have hL4 : mL a V4 T L := by rw [hV4, hV3]; exact hL.keep hR (by decide) (by decide)
  have h11 : vA V4 (a 11) = vA V (a 11) := by rw [hV4, hV3]; exact vA_sA_ne _ _ (hR.ne (by decide) (by decide) (by decide) (by decide) (by decide))
  have hx4 : rMx a V4 (c :: bs) := by
    refine ⟨by rw [hV4]; exact vI_sI_self _ _ _ _ _, hl, fun i hi => ?_⟩
    rw [List.length_cons] at hi ⊢
    have e10 : vA V4 (a 10) = upd (vA V (a 10)) bs.length (nI c) := by rw [hV4, hV3]; exact vA_sA_self _ _ _
    rw [e10]
    by_cases e : i = bs.length
    · rw [e, pk_us, show bs.length + 1 - 1 - bs.length = 0 by omega]; rfl
    · rw [pk_un e, x3 i (by omega), show bs.length + 1 - 1 - i = (bs.length - 1 - i) + 1 by omega]; rfl
  refine z_aload_n F dX10_say_0 rfl ?_
  refine z_getR F dX10_say_1 gr_X10_38 (by assumption) (by assumption) ?_
  refine z_aload_n F dX10_say_4 rfl ?_
  refine z_getI F dX10_say_5 gi_X10_227 (by assumption) ?_
  refine z_ti x1 ?_
  refine z_iload_n F dX10_say_8 rfl ?_
  refine z_iast F dX10_say_9 (by assumption) (by assumption) ?_
  refine z_V (Z := Z) (show _ = V3 by rw [hV3, cl]) ?_
  refine z_aload_n F dX10_say_10 rfl ?_
  refine z_dup F dX10_say_11 rfl ?_
  refine z_getI F dX10_say_12 gi_X10_227 (by assumption) ?_
  refine z_ti x13 ?_
  refine z_iconst (v := nI 1) F dX10_say_15 (by decide) ?_
  refine z_iadd F dX10_say_16 ?_
  refine z_ti (nI_add _ 1) ?_
  refine z_putI F dX10_say_17 pi_X10_227 (zf_9_20 _) (by assumption) ?_
  refine z_V (Z := Z) (show _ = V4 from hV4.symm) ?_
  exact z_vret F dX10_say_20 rfl ⟨V4, rfl, hd, hL4, h11, hx4⟩
set_option maxRecDepth 100000 in
set_option maxHeartbeats 2000000 in
theorem m_decimals (x dd : Int32) (up : Bool) (hR : mR Z a) (hM : rMT a V n T L s) (hO : sOk n s) : zCt Γ mX10_decimals 3 73 0 0 [.ref (a 0), .int x, .int dd, .int (zb up)] (Z, V) (pI (oX Z a n V 0 (opDec s x dd up))) := by
  refine zCt.of [some (.ref (a 0)), some (.int x), some (.int dd), some (.int (zb up)), none, none] pn_X10_decimals rfl (Nat.le_of_ble_eq_true rfl) rfl (fun κ F => ?_)
  obtain ⟨b0, b1, b2, b3, b4, b5, b6, b7, b8, b9, b10, b11⟩ := hR.1
  obtain ⟨d1, d2, d3, d4⟩ := hR.2.1
  obtain ⟨-, -, d7, d8⟩ := hR.2.2.2.1
  have n21 := hR.n21
  refine z_aload_n F dX10_decimals_0 rfl ?_
  refine z_iconst (v := nI 0) F dX10_decimals_1 (by decide) ?_
  refine z_putI F dX10_decimals_2 pi_X10_52 (zf_9_6 _) (by assumption) ?_
  obtain ⟨V1, e1, hg, ht, hM⟩ := hM.th0
  refine z_V (Z := Z) e1 ?_
  have hcs := hM.2.2.1.1.2.2.1
  unfold opDec
  refine z_aload_n F dX10_decimals_5 rfl ?_
  refine z_iload_n F dX10_decimals_6 rfl ?_
  refine z_cVz F (m_isNumber x hR hM) dX10_decimals_7 ml_X10_137 ok_X10_isNumber b0 (by decide) rfl rfl rfl (Nat.le_of_ble_eq_true rfl) (by decide) (by decide) (fun r S' hr => ?_)
  obtain ⟨rfl, rfl⟩ := hr
  refine z_if_eq (tgt := 23) F dX10_decimals_10 (by decide) (fun c1 => ?_) (fun c1 => ?_)
  · have h := zb_f c1
    rw [if_neg (fun z => h (Bool.and_eq_true_iff.mp z).1)]
    refine z_iconst (v := (-1)) F dX10_decimals_23 (by decide) ?_
    exact z_iret F dX10_decimals_24 rfl (oX.same hg hM ht)
  · have h1 := zb_t c1
    refine z_iload_n F dX10_decimals_13 rfl ?_
    refine z_iconst (v := nI 0) F dX10_decimals_14 (by decide) ?_
    refine z_bipush (v := nI 30) F dX10_decimals_15 (by decide) ?_
    refine z_cSz F (m_isIn dd (nI 0) (nI 30)) dX10_decimals_17 ml_X10_119 ok_X10_isIn rfl rfl rfl (Nat.le_of_ble_eq_true rfl) (by decide) (by decide) (fun r S' hr => ?_)
    obtain ⟨rfl, rfl⟩ := hr
    rw [inI_le dd (by decide)]
    refine z_if_ne (tgt := 25) F dX10_decimals_20 (by decide) (fun c2 => ?_) (fun c2 => ?_)
    · have h2 := zb_t c2
      have h2' : inI dd 31 = true := h2
      rw [if_pos (by rw [h1, h2']; rfl)]
      obtain ⟨ja, hja, rfl, eja⟩ := isN_t h1 hcs
      obtain ⟨g, hg31, rfl, eg⟩ := inI_t h2 (by decide)
      rw [eja, eg]
      have eTa := hM.2.2.2.1 ja hja
      have oa := hO.1 ja hja
      have ina := hR.inb (f := ja) (by omega)
      have rba := hM.2.1.rb (f := ja) (by omega)
      obtain ⟨hux, hvx, -⟩ := hM.2.1.2 ja (by omega)
      rw [eTa] at rba hux hvx
      generalize tn s ja = y at *
      obtain ⟨N, hN⟩ : ∃ N, N = decF y g up := ⟨_, rfl⟩
      have hNl : N < 10 ^ 88 := by rw [hN]; exact decF_lt oa (by omega)
      obtain ⟨sg, hsg⟩ : ∃ sg : List Nat, sg = if y.1 = true ∧ N ≠ 0 then [45] else [] := ⟨_, rfl⟩
      obtain ⟨B, hB⟩ : ∃ B, B = decB y g up := ⟨_, rfl⟩
      have hBd : B = figB g 88 0 N ++ sg := by rw [hB, hsg, hN]; rfl
      rw [← hB]
      generalize hQ : zQ Γ κ (pI (oX Z a n V 0 (wT s B, nI B.length))) 0 0 = Q
      have e20 : ∀ (V5 : Hv), dK a V1 V5 → vI V5 9 6 (a 0) = 0 := fun V5 h => by rw [h.1 6 (by decide)]; exact ht
      have rb5 : ∀ (V5 : Hv) (L5 : Nat → Nat), mL a V5 T L5 → vA V5 (a 2) (nI ja).toNatClampNeg = zb y.1 := fun V5 L5 h => by
        have := h.rb (f := ja) (by omega)
        rw [eTa] at this
        exact this
      -- the signs are said
      have tell : ∀ (r : Nat) (k : Int32) (V5 : Hv) (L5 : Nat → Nat) (rs : List Nat) (m : Nat), k + 1 = nI r → r ≤ m → m ≤ 88 → dK a V1 V5 → mL a V5 T L5 → (∀ j, j < m → vA V5 (a 11) j = nI (N / 10 ^ j % 10)) → rMx a V5 rs → B = prx g N r ++ rs → B.length ≤ 90 → zX Γ κ (Z, V5) 0 0 Q 191 [some (.ref (a 0)), some (.int (nI ja)), some (.int (nI g)), some (.int (zb up)), some (.int (nI m)), some (.int k)] [] := by
        intro r
        induction r with
        | zero =>
          intro k V5 L5 rs m hk hrm hm hd5 hL5 hf5 hx5 hBr hBl
          have hk' : k = -1 := by
            have e : k = nI 0 - 1 := by rw [← hk, Int32.add_sub_cancel]
            rw [e]; rfl
          subst hk'
          have hBr' : B = rs := hBr
          subst hBr'
          refine z_iload F dX10_decimals_191 rfl ?_
          refine z_if_lt (tgt := 233) F dX10_decimals_193 (by decide) (fun c => ?_) (fun c => ?_)
          · have hM5 : rMT a V5 n T L5 (wT s B) := by
              obtain ⟨q0, q1, ⟨⟨i2, i3, i40, i4, i5⟩, hv, -⟩, q3⟩ := hM
              refine ⟨q0, hL5, ⟨⟨?_, ?_, i40, ?_, ?_⟩, ?_, hx5⟩, q3⟩
              · rw [hd5.1 2 (by decide)]; exact i2
              · rw [hd5.1 3 (by decide)]; exact i3
              · rw [hd5.1 4 (by decide)]; exact i4
              · rw [hd5.1 5 (by decide)]; exact i5
              · exact hv.of (fun k h1 h2 => hd5.1 k (by omega)) (fun k h1 h2 => hd5.2.1 k h1 h2)
            subst hQ
            refine z_aload_n F dX10_decimals_233 rfl ?_
            refine z_getI F dX10_decimals_234 gi_X10_227 (by assumption) ?_
            refine z_ti hx5.1 ?_
            exact z_iret F dX10_decimals_237 rfl ⟨rfl, V5, T, L5, rfl, hg.trans hd5.2.2, e20 V5 hd5, hM5⟩
          · exact absurd (by decide) c
        | succ r ih =>
          intro k V5 L5 rs m hk hrm hm hd5 hL5 hf5 hx5 hBr hBl
          have hk' : k = nI r := by
            have e : k = nI (r + 1) - 1 := by rw [← hk, Int32.add_sub_cancel]
            rw [e]; exact nI_km1 r
          subst hk'
          have inr : vp_in (nI r) (zn Z (a 11)) := by rw [d8]; exact vp_in_nI (by omega) (by decide)
          have clr : (nI r).toNatClampNeg = r := nI_clamp (by omega)
          have vr : vA V5 (a 11) (nI r).toNatClampNeg = nI (N / 10 ^ r % 10) := by rw [clr]; exact hf5 r (by omega)
          have hpr : prx g N (r + 1) = prx g N r ++ ((if r = g ∧ 0 < g then [46] else []) ++ [48 + N / 10 ^ r % 10]) := rfl
          rw [hpr, List.append_assoc, List.append_assoc] at hBr
          have hBlen : rs.length < B.length := by
            rw [hBr]
            simp only [List.length_append, List.length_cons]
            omega
          have next : ∀ (V6 : Hv) (rs' : List Nat), dK a V1 V6 → mL a V6 T L5 → (∀ j, j < m → vA V6 (a 11) j = nI (N / 10 ^ j % 10)) → rMx a V6 rs' → B = prx g N r ++ rs' → zX Γ κ (Z, V6) 0 0 Q 227 [some (.ref (a 0)), some (.int (nI ja)), some (.int (nI g)), some (.int (zb up)), some (.int (nI m)), some (.int (nI r))] [] := by
            intro V6 rs' hd6 hL6 hf6 hx6 hB6
            refine z_iinc_5 F dX10_decimals_227 rfl ?_
            refine z_goto (tgt := 191) F dX10_decimals_230 (by decide) ?_
            exact ih _ V6 L5 rs' m (by rw [nI_m1, show (1 : Int32) = nI 1 from rfl, Int32.sub_add_cancel]) (by omega) hm hd6 hL6 hf6 hx6 hB6 hBl
          refine z_iload F dX10_decimals_191 rfl ?_
          refine z_if_lt (tgt := 233) F dX10_decimals_193 (by decide) (fun c => ?_) (fun c => ?_)
          · exact absurd c (nI_pos (by omega))
          · refine z_aload_n F dX10_decimals_196 rfl ?_
            refine z_bipush (v := nI 48) F dX10_decimals_197 (by decide) ?_
            refine z_aload_n F dX10_decimals_199 rfl ?_
            refine z_getR F dX10_decimals_200 gr_X10_41 (by assumption) (by assumption) ?_
            refine z_iload F dX10_decimals_203 rfl ?_
            refine z_iald F dX10_decimals_205 (by assumption) (by assumption) ?_
            refine z_ti vr ?_
            refine z_iadd F dX10_decimals_206 ?_
            refine z_ti (nI_add 48 _) ?_
            refine z_cVv F (m_say (c := 48 + N / 10 ^ r % 10) (T := T) (L := L5) hR hL5 hx5 (by omega)) dX10_decimals_207 ml_X10_233 ok_X10_say b0 (by decide) rfl rfl rfl (Nat.le_of_ble_eq_true rfl) (by decide) (by decide) (fun S' hS' => ?_)
            obtain ⟨V6, rfl, hd6, hL6, h116, hx6⟩ := hS'
            have hd56 := hd5.trans hd6
            have hf6 : ∀ j, j < m → vA V6 (a 11) j = nI (N / 10 ^ j % 10) := fun j hj => by rw [h116]; exact hf5 j hj
            refine z_iload F dX10_decimals_210 rfl ?_
            refine z_iload_n F dX10_decimals_212 rfl ?_
            refine z_icmp_ne (tgt := 227) F dX10_decimals_213 (by decide) (fun c2 => ?_) (fun c2 => ?_)
            · have e : ¬ r = g := fun z => c2 (by rw [z])
              rw [if_neg (fun z => e z.1)] at hBr
              exact next V6 _ hd56 hL6 hf6 hx6 hBr
            · have e : r = g := (nI_inj32 (by omega) (by omega)).mp c2
              refine z_iload F dX10_decimals_216 rfl ?_
              refine z_if_le (tgt := 227) F dX10_decimals_218 (by decide) (fun c3 => ?_) (fun c3 => ?_)
              · have e0 : r = 0 := (nI_le0 (by omega)).mp c3
                rw [if_neg (fun z => by omega)] at hBr
                exact next V6 _ hd56 hL6 hf6 hx6 hBr
              · have e0 : r ≠ 0 := fun z => c3 (by rw [z]; decide)
                rw [if_pos ⟨e, by omega⟩] at hBr
                have hBlen2 : rs.length + 1 < B.length := by
                  rw [hBr]
                  simp only [List.length_append, List.length_cons, List.length_nil]
                  omega
                refine z_aload_n F dX10_decimals_221 rfl ?_
                refine z_bipush (v := nI 46) F dX10_decimals_222 (by decide) ?_
                refine z_cVv F (m_say (c := 46) (T := T) (L := L5) hR hL6 hx6 (by rw [List.length_cons]; omega)) dX10_decimals_224 ml_X10_233 ok_X10_say b0 (by decide) rfl rfl rfl (Nat.le_of_ble_eq_true rfl) (by decide) (by decide) (fun S' hS' => ?_)
                obtain ⟨V7, rfl, hd7, hL7, h117, hx7⟩ := hS'
                exact next V7 _ (hd56.trans hd7) hL7 (fun j hj => by rw [h117]; exact hf6 j hj) hx7 hBr
      -- the figures
      have figs : ∀ (q i : Nat) (V5 : Hv) (L5 : Nat → Nat), 89 ≤ i + q → i ≤ 88 → dK a V1 V5 → mL a V5 T L5 → L5 229 = N / 10 ^ i → (∀ j, j < i → vA V5 (a 11) j = nI (N / 10 ^ j % 10)) → rMx a V5 sg → figB g 88 0 N = prx g N i ++ figB g (88 - i) i (N / 10 ^ i) → zX Γ κ (Z, V5) 0 0 Q 149 [some (.ref (a 0)), some (.int (nI ja)), some (.int (nI g)), some (.int (zb up)), some (.int (nI i)), none] [] := by
        intro q
        induction q with
        | zero => intro i V5 L5 h1 h2; omega
        | succ q ih =>
          intro i V5 L5 hq hi hd5 hL5 h229 hf5 hx5 hfb
          have go : (i ≤ g ∨ N / 10 ^ i ≠ 0) → zX Γ κ (Z, V5) 0 0 Q 165 [some (.ref (a 0)), some (.int (nI ja)), some (.int (nI g)), some (.int (zb up)), some (.int (nI i)), none] [] := by
            intro hc
            have hi88 : i < 88 := by
              rcases hc with z | z
              · omega
              · exact i88 hNl z
            have ini : vp_in (nI i) (zn Z (a 11)) := by rw [d8]; exact vp_in_nI (by omega) (by decide)
            have cli : (nI i).toNatClampNeg = i := nI_clamp (by omega)
            refine z_aload_n F dX10_decimals_165 rfl ?_
            refine z_getR F dX10_decimals_166 gr_X10_41 (by assumption) (by assumption) ?_
            refine z_iload F dX10_decimals_169 rfl ?_
            refine z_aload_n F dX10_decimals_171 rfl ?_
            refine z_sipush (v := nI 229) F dX10_decimals_172 (by decide) ?_
            refine z_cVi F (m_tenth (s := 229) hR hL5.1 (by decide)) dX10_decimals_175 ml_X10_236 ok_X10_tenth b0 (by decide) rfl rfl rfl (Nat.le_of_ble_eq_true rfl) (by decide) (by decide) (fun r S' hr => ?_)
            obtain ⟨rfl, V6, rfl, hE6, hG6⟩ := hr
            rw [h229] at hG6 ⊢
            have hL6 := hL5.sc hR hE6 hG6 (fun k hk => by rw [up_ne _ _ (by omega)])
            obtain ⟨V7, hV7⟩ : ∃ V7, V7 = sA V6 (a 11) (upd (vA V6 (a 11)) i (nI (N / 10 ^ i % 10))) := ⟨_, rfl⟩
            refine z_iast F dX10_decimals_178 (by assumption) (by assumption) ?_
            refine z_V (Z := Z) (show _ = V7 by rw [hV7, cli]) ?_
            have hL7 : mL a V7 T (va_up L5 229 (N / 10 ^ i / 10)) := by rw [hV7]; exact hL6.keep hR (by decide) (by decide)
            have hd7 : dK a V1 V7 := by
              refine hd5.trans ⟨fun k hk => ?_, fun k h1 h2 => ?_, ?_⟩
              · rw [hV7]
                exact hE6.i
              · rw [hV7, vA_sA_ne _ _ (hR.ne (by omega) (by omega) (by decide) (by decide) (by omega))]
                exact hE6.m.ar hR h1 (by omega)
              · rw [hV7]
                exact (gM.ofM hE6.m).trans (gM.setA V6 (k := 11) _ (by decide) (by decide))
            have e11 : vA V6 (a 11) = vA V5 (a 11) := hE6.m.ar hR (by decide) (by decide)
            have hx7 : rMx a V7 sg := hx5.of (by rw [hV7]; exact hE6.i) (by
              rw [hV7, vA_sA_ne _ _ (hR.ne (by decide) (by decide) (by decide) (by decide) (by decide))]
              exact hE6.m.ar hR (by decide) (by decide))
            refine z_iinc_4 F dX10_decimals_179 rfl ?_
            refine z_goto (tgt := 149) F dX10_decimals_182 (by decide) ?_
            rw [show nI i + Int32.ofInt 1 = nI (i + 1) from nI_1 i]
            refine ih (i + 1) V7 _ (by omega) (by omega) hd7 hL7 (by rw [up_self, Nat.div_div_eq_div_mul, ← Nat.pow_succ]) (fun j hj => ?_) hx7 ?_
            · rw [hV7, vA_sA_self]
              by_cases e : j = i
              · rw [e, pk_us]
              · rw [pk_un e, e11]; exact hf5 j (by omega)
            · obtain ⟨f', hf'⟩ : ∃ f', 88 - i = f' + 1 := ⟨88 - i - 1, by omega⟩
              rw [hf', figB_s g f' i _ hc, Nat.div_div_eq_div_mul, ← Nat.pow_succ] at hfb
              rw [hfb, show 88 - (i + 1) = f' by omega]
              exact (List.append_assoc _ _ _).symm
          refine z_aload_n F dX10_decimals_149 rfl ?_
          refine z_sipush (v := nI 229) F dX10_decimals_150 (by decide) ?_
          refine z_cVi F (m_topOf (s := 229) hR hL5.1 (by decide)) dX10_decimals_153 ml_X10_60 ok_X10_topOf b0 (by decide) rfl rfl rfl (Nat.le_of_ble_eq_true rfl) (by decide) (by decide) (fun r S' hr => ?_)
          obtain ⟨rfl, tp, rfl, htp, hx1, hx2⟩ := hr
          rw [h229] at hx1 hx2
          have htop := top_0 htp hx1 hx2
          refine z_if_gt (tgt := 165) F dX10_decimals_156 (by decide) (fun c => ?_) (fun c => ?_)
          · exact go (Or.inr (fun z => by
              have h1 := Int32.le_iff_toInt_le.mp (htop.mpr z)
              have h2 := Int32.lt_iff_toInt_lt.mp c
              omega))
          · have hz : N / 10 ^ i = 0 := htop.mp (Int32.le_iff_toInt_le.mpr (by have := mt Int32.lt_iff_toInt_lt.mpr c; omega))
            refine z_iload F dX10_decimals_159 rfl ?_
            refine z_iload_n F dX10_decimals_161 rfl ?_
            refine z_icmp_gt (tgt := 185) F dX10_decimals_162 (by decide) (fun c3 => ?_) (fun c3 => ?_)
            · have hgi : g < i := (nI_ltI (by omega) (by omega)).mp c3
              rw [figB_e g _ i _ (by omega), List.append_nil] at hfb
              have hBi : B = prx g N i ++ sg := by rw [hBd, hfb]
              have hBl : B.length ≤ 90 := by
                have h9 := prx_len g N i
                rw [if_pos hgi] at h9
                have h8 : sg.length ≤ 1 := by
                  rw [hsg]
                  split
                  · exact Nat.le_refl 1
                  · exact Nat.zero_le 1
                rw [hBi, List.length_append]
                omega
              refine z_iload F dX10_decimals_185 rfl ?_
              refine z_iconst (v := nI 1) F dX10_decimals_187 (by decide) ?_
              refine z_isub F dX10_decimals_188 ?_
              refine z_istore_5 F dX10_decimals_189 rfl ?_
              exact tell i _ V5 L5 sg i (by rw [show (1 : Int32) = nI 1 from rfl, Int32.sub_add_cancel]) (Nat.le_refl i) hi hd5 hL5 hf5 hx5 hBi hBl
            · have hgi : i ≤ g := Nat.le_of_not_lt (fun z => c3 ((nI_ltI (by omega) (by omega)).mpr z))
              exact go (Or.inl hgi)
      -- the sign
      have sgn : ∀ (V7 : Hv) (L7 : Nat → Nat), eW (a 1) V1 V7 → mG (vA V7 (a 1)) L7 → (∀ k, k < 224 → L7 k = L k) → L7 229 = N → zX Γ κ (Z, V7) 0 0 Q 116 [some (.ref (a 0)), some (.int (nI ja)), some (.int (nI g)), some (.int (zb up)), some (.int (nI g)), none] [] := by
        intro V7 L7 hE7 hG7 hk7 h229
        have hL7 := hM.2.1.sc hR hE7 hG7 hk7
        obtain ⟨V8, hV8⟩ : ∃ V8, V8 = sI V7 9 20 (a 0) (nI 0) := ⟨_, rfl⟩
        have hL8 : mL a V8 T L7 := by rw [hV8]; exact hL7
        have hd8 : dK a V1 V8 := by
          refine (dK.m hR hE7.m).trans ⟨fun k hk => ?_, fun k _ _ => ?_, ?_⟩
          · rw [hV8]; exact vI9 V7 hk
          · rw [hV8]; rfl
          · rw [hV8]; exact gM.setI V7 _ _
        have hx8 : rMx a V8 [] := ⟨by rw [hV8]; exact vI_sI_self _ _ _ _ _, Nat.zero_le _, fun i hi => absurd hi (Nat.not_lt_zero i)⟩
        have h0 : N / 10 ^ 0 = N := by rw [Nat.pow_zero, Nat.div_one]
        have st : ∀ (V9 : Hv), dK a V1 V9 → mL a V9 T L7 → rMx a V9 sg → zX Γ κ (Z, V9) 0 0 Q 146 [some (.ref (a 0)), some (.int (nI ja)), some (.int (nI g)), some (.int (zb up)), some (.int (nI g)), none] [] := by
          intro V9 hd9 hL9 hx9
          refine z_iconst (v := nI 0) F dX10_decimals_146 (by decide) ?_
          refine z_istore_4 F dX10_decimals_147 rfl ?_
          exact figs 89 0 V9 L7 (by omega) (by omega) hd9 hL9 (by rw [h0]; exact h229) (fun j hj => absurd hj (Nat.not_lt_zero j)) hx9 (by rw [h0]; rfl)
        refine z_aload_n F dX10_decimals_116 rfl ?_
        refine z_iconst (v := nI 0) F dX10_decimals_117 (by decide) ?_
        refine z_putI F dX10_decimals_118 pi_X10_227 (zf_9_20 _) (by assumption) ?_
        refine z_V (Z := Z) (show _ = V8 from hV8.symm) ?_
        refine z_aload_n F dX10_decimals_121 rfl ?_
        refine z_getR F dX10_decimals_122 gr_X10_13 (by assumption) (by assumption) ?_
        refine z_iload_n F dX10_decimals_125 rfl ?_
        refine z_zald F dX10_decimals_126 (by assumption) (by assumption) ?_
        refine z_ti (rb5 V8 L7 hL8) ?_
        refine z_if_eq (tgt := 146) F dX10_decimals_127 (by decide) (fun c => ?_) (fun c => ?_)
        · have h := zb_f c
          rw [if_neg (fun z => h z.1)] at hsg
          exact st V8 hd8 hL8 (by rw [hsg]; exact hx8)
        · have h := zb_t c
          refine z_aload_n F dX10_decimals_130 rfl ?_
          refine z_sipush (v := nI 229) F dX10_decimals_131 (by decide) ?_
          refine z_cVi F (m_topOf (s := 229) hR hL8.1 (by decide)) dX10_decimals_134 ml_X10_60 ok_X10_topOf b0 (by decide) rfl rfl rfl (Nat.le_of_ble_eq_true rfl) (by decide) (by decide) (fun r S' hr => ?_)
          obtain ⟨rfl, tp, rfl, htp, hx1, hx2⟩ := hr
          rw [h229] at hx1 hx2
          have htop := top_0 htp hx1 hx2
          refine z_if_le (tgt := 146) F dX10_decimals_137 (by decide) (fun c3 => ?_) (fun c3 => ?_)
          · have hz := htop.mp c3
            rw [if_neg (fun z => z.2 hz)] at hsg
            exact st V8 hd8 hL8 (by rw [hsg]; exact hx8)
          · have hz := mt htop.mpr c3
            rw [if_pos ⟨h, hz⟩] at hsg
            refine z_aload_n F dX10_decimals_140 rfl ?_
            refine z_bipush (v := nI 45) F dX10_decimals_141 (by decide) ?_
            refine z_cVv F (m_say (c := 45) (T := T) (L := L7) hR hL8 hx8 (by decide)) dX10_decimals_143 ml_X10_233 ok_X10_say b0 (by decide) rfl rfl rfl (Nat.le_of_ble_eq_true rfl) (by decide) (by decide) (fun S' hS' => ?_)
            obtain ⟨V9, rfl, hd9, hL9, -, hx9⟩ := hS'
            exact st V9 (hd8.trans hd9) hL9 (by rw [hsg]; exact hx9)
      have hv0 : 0 < y.2.2 := oa.1.1
      have tens : ∀ (d k : Nat) (V5 : Hv) (L5 : Nat → Nat), k + d = g → eW (a 1) V1 V5 → mG (vA V5 (a 1)) L5 → (∀ k, k < 224 → L5 k = L k) → L5 224 = y.2.1 * 10 ^ k → zX Γ κ (Z, V5) 0 0 Q 38 [some (.ref (a 0)), some (.int (nI ja)), some (.int (nI g)), some (.int (zb up)), some (.int (nI k)), none] [] := by
        intro d
        induction d with
        | zero =>
          intro k V5 L5 hk hE5 hG5 hk5 h224
          have hkg : k = g := by omega
          subst hkg
          have lv : L5 (2 * ja + 1) = y.2.2 := by rw [hk5 _ (by omega)]; exact hvx
          refine z_iload F dX10_decimals_38 rfl ?_
          refine z_iload_n F dX10_decimals_40 rfl ?_
          refine z_icmp_ge (tgt := 57) F dX10_decimals_41 (by decide) (fun c => ?_) (fun c => ?_)
          · refine z_aload_n F dX10_decimals_57 rfl ?_
            refine z_sipush (v := nI 224) F dX10_decimals_58 (by decide) ?_
            refine z_iconst (v := nI 2) F dX10_decimals_61 (by decide) ?_
            refine z_iload_n F dX10_decimals_62 rfl ?_
            refine z_imul F dX10_decimals_63 ?_
            refine z_ti (pk_mul 2 ja) ?_
            refine z_iconst (v := nI 1) F dX10_decimals_64 (by decide) ?_
            refine z_iadd F dX10_decimals_65 ?_
            refine z_ti (nI_add _ 1) ?_
            refine z_sipush (v := nI 229) F dX10_decimals_66 (by decide) ?_
            refine z_sipush (v := nI 230) F dX10_decimals_69 (by decide) ?_
            refine z_cVv F (m_divide (s := 224) (t := 2 * ja + 1) (q := 229) (r := 230) hR hG5 (by decide) (by omega) (by decide) (by decide) (by decide) (by omega) (by decide) (by omega) (by decide) (by rw [lv]; exact hv0) (by rw [lv]; exact lt15 (lt12 oa.2.2))) dX10_decimals_72 ml_X10_98 ok_X10_divide b0 (by decide) rfl rfl rfl (Nat.le_of_ble_eq_true rfl) (by decide) (by decide) (fun S' hS' => ?_)
            obtain ⟨V6, rfl, hE6, hG6⟩ := hS'
            rw [h224, lv] at hG6
            have hE56 := hE5.trans hE6
            have q229 : va_up (va_up L5 229 (y.2.1 * 10 ^ k / y.2.2)) 230 (y.2.1 * 10 ^ k % y.2.2) 229 = y.2.1 * 10 ^ k / y.2.2 := by rw [up_ne _ _ (by decide), up_self]
            have q230 : va_up (va_up L5 229 (y.2.1 * 10 ^ k / y.2.2)) 230 (y.2.1 * 10 ^ k % y.2.2) 230 = y.2.1 * 10 ^ k % y.2.2 := up_self _ _ _
            have qk : ∀ j, j < 224 → va_up (va_up L5 229 (y.2.1 * 10 ^ k / y.2.2)) 230 (y.2.1 * 10 ^ k % y.2.2) j = L j := fun j hj => by rw [up_ne _ _ (by omega), up_ne _ _ (by omega)]; exact hk5 j hj
            generalize va_up (va_up L5 229 (y.2.1 * 10 ^ k / y.2.2)) 230 (y.2.1 * 10 ^ k % y.2.2) = L6 at *
            have hq6 : L6 229 < 4294967296 ^ 12 := by
              rw [q229]
              have h9 := dec_lt oa.2.1 (show k ≤ 30 by omega)
              exact Nat.lt_of_le_of_lt (Nat.div_le_self _ _) (Nat.lt_trans h9 (by decide))
            have rb6 : vA V6 (a 2) (nI ja).toNatClampNeg = zb y.1 := by rw [hE56.2.1 _ n21]; exact rba
            unfold decF at hN
            have same : ¬ (y.2.1 * 10 ^ k % y.2.2 ≠ 0 ∧ up ≠ y.1) → zX Γ κ (Z, V6) 0 0 Q 116 [some (.ref (a 0)), some (.int (nI ja)), some (.int (nI k)), some (.int (zb up)), some (.int (nI k)), none] [] := by
              intro h
              rw [if_neg h, Nat.add_zero] at hN
              exact sgn V6 L6 hE56 hG6 qk (by rw [q229, hN])
            refine z_aload_n F dX10_decimals_75 rfl ?_
            refine z_sipush (v := nI 230) F dX10_decimals_76 (by decide) ?_
            refine z_cVi F (m_topOf (s := 230) hR hG6 (by decide)) dX10_decimals_79 ml_X10_60 ok_X10_topOf b0 (by decide) rfl rfl rfl (Nat.le_of_ble_eq_true rfl) (by decide) (by decide) (fun r S' hr => ?_)
            obtain ⟨rfl, tp, rfl, htp, hx1, hx2⟩ := hr
            rw [q230] at hx1 hx2
            have htop := top_0 htp hx1 hx2
            refine z_if_le (tgt := 116) F dX10_decimals_82 (by decide) (fun c3 => ?_) (fun c3 => ?_)
            · exact same (fun z => z.1 (htop.mp c3))
            · have hz := mt htop.mpr c3
              refine z_aload_n F dX10_decimals_85 rfl ?_
              refine z_getR F dX10_decimals_86 gr_X10_13 (by assumption) (by assumption) ?_
              refine z_iload_n F dX10_decimals_89 rfl ?_
              refine z_zald F dX10_decimals_90 (by assumption) (by assumption) ?_
              refine z_ti rb6 ?_
              refine z_iload_n F dX10_decimals_91 rfl ?_
              refine z_icmp_eq (tgt := 116) F dX10_decimals_92 (by decide) (fun c4 => ?_) (fun c4 => ?_)
              · have e := (zb_cmp _ _).mp c4
                exact same (fun z => z.2 e.symm)
              · have e : ¬ up = y.1 := fun z => c4 ((zb_cmp _ _).mpr z.symm)
                rw [if_pos ⟨hz, e⟩] at hN
                refine z_aload_n F dX10_decimals_95 rfl ?_
                refine z_sipush (v := nI 225) F dX10_decimals_96 (by decide) ?_
                refine z_lconst (v := lN 1) F dX10_decimals_99 (by decide) ?_
                refine z_cVv F (m_setLong (s := 225) (lN 1) hR hG6 (by decide)) dX10_decimals_100 ml_X10_112 ok_X10_setLong b0 (by decide) rfl rfl rfl (Nat.le_of_ble_eq_true rfl) (by decide) (by decide) (fun S' hS' => ?_)
                obtain ⟨V7, rfl, hE7, hG7⟩ := hS'
                rw [lN_abs (by decide)] at hG7
                refine z_aload_n F dX10_decimals_103 rfl ?_
                refine z_sipush (v := nI 229) F dX10_decimals_104 (by decide) ?_
                refine z_sipush (v := nI 225) F dX10_decimals_107 (by decide) ?_
                refine z_sipush (v := nI 229) F dX10_decimals_110 (by decide) ?_
                refine z_cVv F (m_plus (s := 229) (t := 225) (c := 229) hR hG7 (by decide) (by decide) (by decide) (by rw [up_ne _ _ (by decide), up_self]; exact lt16a hq6 (by decide))) dX10_decimals_113 ml_X10_106 ok_X10_plus b0 (by decide) rfl rfl rfl (Nat.le_of_ble_eq_true rfl) (by decide) (by decide) (fun S' hS' => ?_)
                obtain ⟨V8, rfl, hE8, hG8⟩ := hS'
                rw [up_ne (j := 229) _ _ (by decide), up_self, q229, ← hN] at hG8
                exact sgn V8 _ ((hE56.trans hE7).trans hE8) hG8 (fun j hj => by rw [up_ne _ _ (by omega), up_ne _ _ (by omega)]; exact qk j hj) (up_self _ _ _)
          · exact absurd (nI_le (by omega) (by omega)) c
        | succ d ih =>
          intro k V5 L5 hk hE5 hG5 hk5 h224
          have hb10 : 10 * L5 224 < 268435456 ^ 16 := by
            rw [h224]
            have h9 := dec_lt oa.2.1 (show k ≤ 30 by omega)
            exact Nat.lt_trans (Nat.mul_lt_mul_of_pos_left h9 (by decide)) p1016
          refine z_iload F dX10_decimals_38 rfl ?_
          refine z_iload_n F dX10_decimals_40 rfl ?_
          refine z_icmp_ge (tgt := 57) F dX10_decimals_41 (by decide) (fun c => ?_) (fun c => ?_)
          · exact absurd ((nI_leI (by omega) (by omega)).mp c) (by omega)
          · refine z_aload_n F dX10_decimals_44 rfl ?_
            refine z_sipush (v := nI 224) F dX10_decimals_45 (by decide) ?_
            refine z_cVv F (m_tenfold (s := 224) hR hG5 (by decide) hb10) dX10_decimals_48 ml_X10_230 ok_X10_tenfold b0 (by decide) rfl rfl rfl (Nat.le_of_ble_eq_true rfl) (by decide) (by decide) (fun S' hS' => ?_)
            obtain ⟨V6, rfl, hE6, hG6⟩ := hS'
            refine z_iinc_4 F dX10_decimals_51 rfl ?_
            refine z_goto (tgt := 38) F dX10_decimals_54 (by decide) ?_
            rw [show nI k + Int32.ofInt 1 = nI (k + 1) from nI_1 k]
            refine ih (k + 1) V6 _ (by omega) (hE5.trans hE6) hG6 (fun j hj => by rw [up_ne _ _ (by omega)]; exact hk5 j hj) ?_
            rw [up_self, h224, Nat.pow_succ, Nat.mul_comm 10, Nat.mul_assoc]
      refine z_aload_n F dX10_decimals_25 rfl ?_
      refine z_iconst (v := nI 2) F dX10_decimals_26 (by decide) ?_
      refine z_iload_n F dX10_decimals_27 rfl ?_
      refine z_imul F dX10_decimals_28 ?_
      refine z_ti (pk_mul 2 ja) ?_
      refine z_sipush (v := nI 224) F dX10_decimals_29 (by decide) ?_
      refine z_cVv F (m_carryOver (s := 2 * ja) (t := 224) hR hM.2.1.1 (by omega) (by decide)) dX10_decimals_32 ml_X10_82 ok_X10_carryOver b0 (by decide) rfl rfl rfl (Nat.le_of_ble_eq_true rfl) (by decide) (by decide) (fun S' hS' => ?_)
      obtain ⟨V2, rfl, hE2, hG2⟩ := hS'
      refine z_iconst (v := nI 0) F dX10_decimals_35 (by decide) ?_
      refine z_istore_4 F dX10_decimals_36 rfl ?_
      exact tens g 0 V2 _ (by omega) hE2 hG2 (fun k hk => by rw [up_ne _ _ (by omega)]) (by rw [up_self, hux, Nat.pow_zero, Nat.mul_one])
    · have h := zb_f c2
      have h' : ¬ inI dd 31 = true := h
      rw [if_neg (fun z => h' (Bool.and_eq_true_iff.mp z).2)]
      refine z_iconst (v := (-1)) F dX10_decimals_23 (by decide) ?_
      exact z_iret F dX10_decimals_24 rfl (oX.same hg hM ht)
end MOD22
