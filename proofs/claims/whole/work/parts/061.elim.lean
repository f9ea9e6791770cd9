/-! ===== Elimination ===== -/
/-- only int fields in PI and int arrays in PA have changed -/
def eG (PI : Nat → Nat → Nat → Prop) (PA : Nat → Prop) (V V' : Hv) : Prop := (∀ ci k a, ¬ PI ci k a → vI V' ci k a = vI V ci k a) ∧ (∀ a, ¬ PA a → vA V' a = vA V a) ∧ vJ V' = vJ V
theorem eG.refl {PI : Nat → Nat → Nat → Prop} {PA : Nat → Prop} (V : Hv) : eG PI PA V V := ⟨fun _ _ _ _ => rfl, fun _ _ => rfl, rfl⟩
theorem eG.trans {PI : Nat → Nat → Nat → Prop} {PA : Nat → Prop} {V V1 V2 : Hv} (h1 : eG PI PA V V1) (h2 : eG PI PA V1 V2) : eG PI PA V V2 := ⟨fun ci k a h => (h2.1 ci k a h).trans (h1.1 ci k a h), fun a h => (h2.2.1 a h).trans (h1.2.1 a h), h2.2.2.trans h1.2.2⟩
theorem eG.mono {PI PI' : Nat → Nat → Nat → Prop} {PA PA' : Nat → Prop} {V V1 : Hv} (h : eG PI PA V V1) (hI : ∀ ci k a, PI ci k a → PI' ci k a) (hA : ∀ a, PA a → PA' a) : eG PI' PA' V V1 := ⟨fun ci k a h9 => h.1 ci k a (fun z => h9 (hI ci k a z)), fun a h9 => h.2.1 a (fun z => h9 (hA a z)), h.2.2⟩
def pI0 : Nat → Nat → Nat → Prop := fun ci k _ => (ci = 7 ∧ k = 1) ∨ (ci = 3 ∧ k = 2)
def pA0 (Z : Hz) : Nat → Prop := fun a => ∃ o, wh Z o a
theorem eF.g {Z : Hz} {V V' : Hv} (h : eF Z V V') : eG pI0 (pA0 Z) V V' := ⟨fun ci k a h9 => h.1 ci k a (fun z => h9 (Or.inl z)) (fun z => h9 (Or.inr z)), fun a h9 => h.2.1 a (fun o z => h9 ⟨o, z⟩), h.2.2⟩
theorem eG.setI {PI : Nat → Nat → Nat → Prop} {PA : Nat → Prop} (V : Hv) {ci k a : Nat} (x : Int32) (h : PI ci k a) : eG PI PA V (sI V ci k a x) := ⟨fun ci' k' a' h9 => vI_sI_ne _ _ (fun z => h9 (by rw [z.1, z.2.1, z.2.2]; exact h)), fun _ _ => rfl, rfl⟩
theorem eG.setA {PI : Nat → Nat → Nat → Prop} {PA : Nat → Prop} (V : Hv) {a : Nat} (f : Nat → Int32) (h : PA a) : eG PI PA V (sA V a f) := ⟨fun _ _ _ _ => rfl, fun b hb => vA_sA_ne _ _ (fun z => hb (z ▸ h)), rfl⟩
/-- int fields and arrays that no Whole and no sign is don't move what is told -/
theorem KS.keep {Z : Hz} {uo vo w : Nat → Nat} {V V' : Hv} {T : Nat → Fr} {X : Nat → Nat} {PI : Nat → Nat → Nat → Prop} {PA : Nat → Prop} (h : KS Z uo vo w V T X) (hg : eG PI PA V V') (hI : ∀ ci k a, PI ci k a → ¬ pI0 ci k a) (hA : ∀ a, PA a → ¬ pA0 Z a) : KS Z uo vo w V' T X := by
  obtain ⟨val, bel, ⟨hC, hB⟩, hT, hX⟩ := h
  refine ⟨val, bel, ⟨fun o g ho => ⟨?_, ?_⟩, fun q hq => ?_⟩, hT, hX⟩
  · rw [hg.2.1 g (fun z => hA g z ⟨o, ho⟩)]; exact (hC o g ho).1
  · rw [hg.1 7 1 o (fun z => hI 7 1 o z (Or.inl ⟨rfl, rfl⟩))]; exact (hC o g ho).2
  · rw [hg.1 3 2 q (fun z => hI 3 2 q z (Or.inr ⟨rfl, rfl⟩))]; exact hB q hq
theorem idx_lt {r n k : Nat} (hr : r < n) (hk : k ≤ n) : r * (n + 1) + k < n * (n + 1) := by
  have : (r + 1) * (n + 1) ≤ n * (n + 1) := Nat.mul_le_mul_right _ hr
  rw [Nat.add_mul] at this
  omega
theorem idx_inj {r r' n k k' : Nat} (hk : k ≤ n) (hk' : k' ≤ n) (h : r * (n + 1) + k = r' * (n + 1) + k') : r = r' ∧ k = k' := by
  have h1 : (r * (n + 1) + k) / (n + 1) = r := by rw [Nat.mul_comm, Nat.mul_add_div (by omega), Nat.div_eq_of_lt (by omega)]; rfl
  have h2 : (r' * (n + 1) + k') / (n + 1) = r' := by rw [Nat.mul_comm, Nat.mul_add_div (by omega), Nat.div_eq_of_lt (by omega)]; rfl
  rw [h] at h1
  have e : r = r' := h1.symm.trans h2
  subst e
  exact ⟨rfl, by omega⟩
theorem nn30 {n : Nat} (h : n ≤ 5) : n * (n + 1) ≤ 30 := Nat.mul_le_mul h (by omega : n + 1 ≤ 6)
/-- the Elimination at E -/
def eR (Z : Hz) (E n A wk ra co fa pd : Nat) (we : Nat → Nat) : Prop :=
  (zIn Z E 2 ∧ zR Z 2 1 E = some A ∧ zR Z 2 2 E = some wk ∧ zR Z 2 3 E = some ra ∧ zR Z 2 4 E = some co ∧ zR Z 2 5 E = some fa ∧ zR Z 2 6 E = some pd) ∧
  (zIn Z wk 13 ∧ zn Z wk = n * (n + 1) ∧ zIn Z ra 11 ∧ zn Z ra = n ∧ zIn Z co 11 ∧ zn Z co = n ∧ zIn Z fa 3 ∧ zIn Z pd 3) ∧
  (∀ i, i < n * (n + 1) → zA Z wk i = some (we i) ∧ zIn Z (we i) 3 ∧ we i ≠ fa ∧ we i ≠ pd) ∧ (∀ i j, i < n * (n + 1) → j < n * (n + 1) → we i = we j → i = j) ∧ fa ≠ pd ∧ ra ≠ co ∧ ¬ pA0 Z ra ∧ ¬ pA0 Z co ∧ 1 ≤ n ∧ n ≤ 5
/-- the Elimination's ints -/
def eI (V : Hv) (E n ra co : Nat) (ro : Nat → Nat) (t : Nat) (cc : Nat → Nat) (od : Bool) : Prop := vI V 2 0 E = nI n ∧ vI V 2 7 E = nI t ∧ vI V 2 8 E = zb od ∧ (∀ p, p < n → vA V ra p = nI (ro p) ∧ ro p < n) ∧ (∀ p p', p < n → p' < n → ro p = ro p' → p = p') ∧ (∀ p, p < t → vA V co p = nI (cc p) ∧ cc p < n) ∧ t ≤ n
/-- the Elimination's entries by places -/
def eM (T : Nat → Fr) (n : Nat) (we ro : Nat → Nat) (M : Mx) : Prop := ∀ p k, p < n → k ≤ n → T (we (ro p * (n + 1) + k)) = M p k
theorem eI.keep {Z : Hz} {V V' : Hv} {E n ra co t : Nat} {ro cc : Nat → Nat} {od : Bool} (h : eI V E n ra co ro t cc od) (hF : eF Z V V') (hra : ¬ pA0 Z ra) (hco : ¬ pA0 Z co) : eI V' E n ra co ro t cc od := by
  obtain ⟨h1, h2, h3, h4, h5, h6, h7⟩ := h
  have g := hF.g
  have e1 : vA V' ra = vA V ra := g.2.1 ra hra
  have e2 : vA V' co = vA V co := g.2.1 co hco
  have n1 : ∀ k, ¬ pI0 2 k E := fun k h => by rcases h with h | h <;> exact absurd h.1 (by decide)
  exact ⟨(g.1 _ _ _ (n1 0)).trans h1, (g.1 _ _ _ (n1 7)).trans h2, (g.1 _ _ _ (n1 8)).trans h3, fun p hp => by rw [e1]; exact h4 p hp, h5, fun p hp => by rw [e2]; exact h6 p hp, h7⟩
/-- entries elsewhere stay -/
def tS (we : Nat → Nat) (n fa pd : Nat) (T T' : Nat → Fr) : Prop := ∀ q, (∀ i, i < n * (n + 1) → q ≠ we i) → q ≠ fa → q ≠ pd → T' q = T q
theorem tS.refl (we : Nat → Nat) (n fa pd : Nat) (T : Nat → Fr) : tS we n fa pd T T := fun _ _ _ _ => rfl
theorem tS.trans {we : Nat → Nat} {n fa pd : Nat} {T T1 T2 : Nat → Fr} (h1 : tS we n fa pd T T1) (h2 : tS we n fa pd T1 T2) : tS we n fa pd T T2 := fun q a b c => (h2 q a b c).trans (h1 q a b c)
section ELIM
variable {Γ : Gm} {Z : Hz} {V : Hv} {T : Nat → Fr} {X : Nat → Nat} {uo vo w we : Nat → Nat} {E n A wk ra co fa pd : Nat} {ro cc : Nat → Nat} {t : Nat} {od : Bool} {M : Mx}
theorem eM.up {p k : Nat} {x : Fr} (hR : eR Z E n A wk ra co fa pd we) (hI : eI V E n ra co ro t cc od) (hM : eM T n we ro M) (hp : p < n) (hk : k ≤ n) : eM (va_up T (we (ro p * (n + 1) + k)) x) n we ro (up2 M p k x) := by
  intro p' k' hp' hk'
  by_cases e : p' = p ∧ k' = k
  · obtain ⟨rfl, rfl⟩ := e
    rw [up_self, up2_self]
  · rw [up2_ne _ _ e, up_ne _ _ (fun z => e ?_)]
    · exact hM p' k' hp' hk'
    · have h1 := hR.2.2.2.1 _ _ (idx_lt (hI.2.2.2.1 p' hp').2 hk') (idx_lt (hI.2.2.2.1 p hp).2 hk) z
      obtain ⟨h2, h3⟩ := idx_inj hk' hk h1
      exact ⟨hI.2.2.2.2.1 p' p hp' hp h2, h3⟩
theorem eM.out {q : Nat} {x : Fr} (hI : eI V E n ra co ro t cc od) (hM : eM T n we ro M) (hq : ∀ i, i < n * (n + 1) → q ≠ we i) : eM (va_up T q x) n we ro M := fun p k hp hk => by
  rw [up_ne _ _ (fun z => hq _ (idx_lt (hI.2.2.2.1 p hp).2 hk) z.symm)]
  exact hM p k hp hk
theorem upW_t {q : Nat} {x : Fr} (h : wideB x = true) : upW T q x = va_up T q x := by simp [upW, h]
theorem upW_f {q : Nat} {x : Fr} (h : ¬ wideB x = true) : upW T q x = T := by simp [upW, h]
theorem tS.ofFa {x : Fr} : tS we n fa pd T (va_up T fa x) := fun q _ h _ => up_ne _ _ h
theorem tS.ofPd {x : Fr} : tS we n fa pd T (va_up T pd x) := fun q _ _ h => up_ne _ _ h
theorem tS.ofWe {i : Nat} {x : Fr} (hi : i < n * (n + 1)) : tS we n fa pd T (va_up T (we i) x) := fun q h _ _ => up_ne _ _ (h i hi)
set_option maxRecDepth 100000 in
theorem c_at {p k : Nat} (hR : eR Z E n A wk ra co fa pd we) (hI : eI V E n ra co ro t cc od) (hp : p < n) (hk : k ≤ n) : zCt Γ mX2_at 0 0 0 0 [.ref E, .int (nI p), .int (nI k)] (Z, V) (pR (q0 Z V (we (ro p * (n + 1) + k)))) := by
  refine zCt.of [some (.ref E), some (.int (nI p)), some (.int (nI k))] pn_X2_at rfl (Nat.le_of_ble_eq_true rfl) rfl (fun κ F => ?_)
  obtain ⟨⟨b0, b1, b2, b3, b4, b5, b6⟩, ⟨d1, d2, d3, d4, d5, d6, d7, d8⟩, hw, hwi, -, -, -, -, n1, n5⟩ := hR
  obtain ⟨hr, hrn⟩ := hI.2.2.2.1 p hp
  have hlt := idx_lt hrn hk
  have h30 := nn30 n5
  have ein : vp_in (nI p) (zn Z ra) := by rw [d4]; exact vp_in_nI hp (by omega)
  have e1 : vA V ra (nI p).toNatClampNeg = nI (ro p) := by rw [nI_clamp (by omega)]; exact hr
  have e2 : vp_in (nI (ro p * (n + 1) + k)) (zn Z wk) := by rw [d2]; exact vp_in_nI hlt (by omega)
  have e3 : zA Z wk (nI (ro p * (n + 1) + k)).toNatClampNeg = some (we (ro p * (n + 1) + k)) := by rw [nI_clamp (by omega)]; exact (hw _ hlt).1
  refine z_aload_n F dX2_at_0 rfl ?_
  refine z_getR F dX2_at_1 gr_X2_31 (by assumption) (by assumption) ?_
  refine z_aload_n F dX2_at_4 rfl ?_
  refine z_getR F dX2_at_5 gr_X2_35 (by assumption) (by assumption) ?_
  refine z_iload_n F dX2_at_8 rfl ?_
  refine z_iald F dX2_at_9 (by assumption) ein ?_
  refine z_ti e1 ?_
  refine z_aload_n F dX2_at_10 rfl ?_
  refine z_getI F dX2_at_11 gi_X2_19 (by assumption) ?_
  refine z_ti hI.1 ?_
  refine z_iconst (v := nI 1) F dX2_at_14 (by decide) ?_
  refine z_iadd F dX2_at_15 ?_
  refine z_ti (nI_add n 1) ?_
  refine z_imul F dX2_at_16 ?_
  refine z_ti (pk_mul _ _) ?_
  refine z_iload_n F dX2_at_17 rfl ?_
  refine z_iadd F dX2_at_18 ?_
  refine z_ti (nI_add _ _) ?_
  refine z_aald F dX2_at_19 (by assumption) e2 e3 ?_
  exact z_aret F dX2_at_20 rfl (Or.inl ⟨_, rfl⟩) ⟨rfl, rfl⟩
/-- the Fraction at a place -/
theorem eR.at {p k : Nat} (hR : eR Z E n A wk ra co fa pd we) (hI : eI V E n ra co ro t cc od) (hp : p < n) (hk : k ≤ n) : zIn Z (we (ro p * (n + 1) + k)) 3 := (hR.2.2.1 _ (idx_lt (hI.2.2.2.1 p hp).2 hk)).2.1
set_option maxRecDepth 100000 in
theorem c_pivotAt {p : Nat} (hR : eR Z E n A wk ra co fa pd we) (hI : eI V E n ra co ro t cc od) (hp : p < t) : zCt Γ mX2_pivotAt 1 22 0 0 [.ref E, .int (nI p)] (Z, V) (pR (q0 Z V (we (ro p * (n + 1) + cc p)))) := by
  refine zCt.of [some (.ref E), some (.int (nI p))] pn_X2_pivotAt rfl (Nat.le_of_ble_eq_true rfl) rfl (fun κ F => ?_)
  obtain ⟨⟨b0, b1, b2, b3, b4, b5, b6⟩, ⟨d1, d2, d3, d4, d5, d6, d7, d8⟩, hw, hwi, -, -, -, -, n1, n5⟩ := id hR
  obtain ⟨hc, hcn⟩ := hI.2.2.2.2.2.1 p hp
  have htn := hI.2.2.2.2.2.2
  have ein : vp_in (nI p) (zn Z co) := by rw [d6]; exact vp_in_nI (by omega) (by omega)
  have e1 : vA V co (nI p).toNatClampNeg = nI (cc p) := by rw [nI_clamp (by omega)]; exact hc
  refine z_aload_n F dX2_pivotAt_0 rfl ?_
  refine z_iload_n F dX2_pivotAt_1 rfl ?_
  refine z_aload_n F dX2_pivotAt_2 rfl ?_
  refine z_getR F dX2_pivotAt_3 gr_X2_39 (by assumption) (by assumption) ?_
  refine z_iload_n F dX2_pivotAt_6 rfl ?_
  refine z_iald F dX2_pivotAt_7 (by assumption) ein ?_
  refine z_ti e1 ?_
  refine z_cVr F (c_at hR hI (by omega) (Nat.le_of_lt hcn)) dX2_pivotAt_8 ml_X2_57 ok_X2_at b0 (by decide) rfl rfl rfl (Nat.le_of_ble_eq_true rfl) (by decide) (by decide) (fun r S' hr => ?_)
  obtain ⟨rfl, rfl⟩ := hr
  exact z_aret F dX2_pivotAt_11 rfl (Or.inl ⟨_, rfl⟩) ⟨rfl, rfl⟩
/-- a place, or none -/
def encP : Option Nat → Int32
  | none => -1
  | some c => nI c
set_option maxRecDepth 100000 in
set_option maxHeartbeats 1000000 in
theorem c_choose {j way : Nat} (hK : KS Z uo vo w V T X) (hS : fS Z uo vo w) (hR : eR Z E n A wk ra co fa pd we) (hI : eI V E n ra co ro t cc od) (hM : eM T n we ro M) (hj : j ≤ n) (hway : way ≤ 1) : zCt Γ mX2_choose 3 61 0 0 [.ref E, .int (nI j), .int (nI way)] (Z, V) (pI (q0 Z V (encP (chz M way j (n - t) t none)))) := by
  refine zCt.of [some (.ref E), some (.int (nI j)), some (.int (nI way)), none, none] pn_X2_choose rfl (Nat.le_of_ble_eq_true rfl) rfl (fun κ F => ?_)
  obtain ⟨⟨b0, b1, b2, b3, b4, b5, b6⟩, ⟨d1, d2, d3, d4, d5, d6, d7, d8⟩, hw, hwi, -, -, -, -, n1, n5⟩ := id hR
  have htn := hI.2.2.2.2.2.2
  have loop : ∀ (d p : Nat) (b : Option Nat), p + d = n → (∀ c, b = some c → c < n ∧ way = 1) → chz M way j d p b = chz M way j (n - t) t none → zX Γ κ (Z, V) 0 0 (zQ Γ κ (pI (q0 Z V (encP (chz M way j (n - t) t none)))) 0 0) 8 [some (.ref E), some (.int (nI j)), some (.int (nI way)), some (.int (encP b)), some (.int (nI p))] [] := by
    intro d
    induction d with
    | zero =>
      intro p b hp hb he
      refine z_iload F dX2_choose_8 rfl ?_
      refine z_aload_n F dX2_choose_10 rfl ?_
      refine z_getI F dX2_choose_11 gi_X2_19 (by assumption) ?_
      refine z_ti hI.1 ?_
      refine z_icmp_ge (tgt := 72) F dX2_choose_14 (by decide) (fun c => ?_) (fun c => ?_)
      · refine z_iload_n F dX2_choose_72 rfl ?_
        exact z_iret F dX2_choose_73 rfl ⟨by rw [← he]; rfl, rfl⟩
      · exact absurd (nI_le (by omega) (by omega)) c
    | succ d ih =>
      intro p b hp hb he
      have hpn : p < n := by omega
      have za := eR.at hR hI hpn hj
      have eT := hM p j hpn hj
      rw [show chz M way j (d + 1) p b = chz M way j d (p + 1) (if (M p j).2.1 = 0 then b else pick M way j p b) from rfl] at he
      have next : ∀ b', (∀ c, b' = some c → c < n ∧ way = 1) → b' = (if (M p j).2.1 = 0 then b else pick M way j p b) → zX Γ κ (Z, V) 0 0 (zQ Γ κ (pI (q0 Z V (encP (chz M way j (n - t) t none)))) 0 0) 66 [some (.ref E), some (.int (nI j)), some (.int (nI way)), some (.int (encP b')), some (.int (nI p))] [] := by
        intro b' hb' e
        refine z_iinc_4 F dX2_choose_66 rfl ?_
        refine z_goto (tgt := 8) F dX2_choose_69 (by decide) ?_
        rw [show nI p + Int32.ofInt 1 = nI (p + 1) from nI_1 p]
        exact ih (p + 1) b' (by omega) hb' (by rw [e]; exact he)
      refine z_iload F dX2_choose_8 rfl ?_
      refine z_aload_n F dX2_choose_10 rfl ?_
      refine z_getI F dX2_choose_11 gi_X2_19 (by assumption) ?_
      refine z_ti hI.1 ?_
      refine z_icmp_ge (tgt := 72) F dX2_choose_14 (by decide) (fun c => ?_) (fun c => ?_)
      · exact absurd ((nI_leI (by omega) (by omega)).mp c) (by omega)
      · refine z_aload_n F dX2_choose_17 rfl ?_
        refine z_iload F dX2_choose_18 rfl ?_
        refine z_iload_n F dX2_choose_20 rfl ?_
        refine z_cVr F (c_at hR hI hpn hj) dX2_choose_21 ml_X2_57 ok_X2_at b0 (by decide) rfl rfl rfl (Nat.le_of_ble_eq_true rfl) (by decide) (by decide) (fun r S' hr => ?_)
        obtain ⟨rfl, rfl⟩ := hr
        refine z_cVz F (K_isZero hK hS za) dX2_choose_24 ml_X2_61 ok_X3_isZero za (by decide) rfl rfl rfl (Nat.le_of_ble_eq_true rfl) (by decide) (by decide) (fun r S' hr => ?_)
        obtain ⟨rfl, rfl⟩ := hr
        rw [eT]
        refine z_if_ne (tgt := 66) F dX2_choose_27 (by decide) (fun c2 => ?_) (fun c2 => ?_)
        · have hz : (M p j).2.1 = 0 := by
            apply Decidable.byContradiction
            intro z
            exact c2 (by simp [z])
          exact next b hb (by rw [if_pos hz])
        · have hz : ¬ (M p j).2.1 = 0 := fun z => by
            rw [z] at c2
            exact absurd c2 (by decide)
          rw [if_neg hz] at he next
          refine z_iload_n F dX2_choose_30 rfl ?_
          refine z_if_ne (tgt := 37) F dX2_choose_31 (by decide) (fun c3 => ?_) (fun c3 => ?_)
          · have hw1 : way = 1 := by
              have : ¬ way = 0 := fun z => c3 (by rw [z]; rfl)
              omega
            refine z_iload_n F dX2_choose_37 rfl ?_
            cases b with
            | none =>
              refine z_if_lt (tgt := 63) F dX2_choose_38 (by decide) (fun c4 => ?_) (fun c4 => ?_)
              · refine z_iload F dX2_choose_63 rfl ?_
                refine z_istore_n_3 F dX2_choose_65 rfl ?_
                exact next (some p) (fun c h => by cases h; exact ⟨hpn, hw1⟩) rfl
              · exact absurd (by decide) c4
            | some cp =>
              obtain ⟨hcn, -⟩ := hb cp rfl
              have zc := eR.at hR hI hcn hj
              have eTc := hM cp j hcn hj
              refine z_if_lt (tgt := 63) F dX2_choose_38 (by decide) (fun c4 => ?_) (fun c4 => ?_)
              · exact absurd c4 (nI_pos (by omega))
              · refine z_aload_n F dX2_choose_41 rfl ?_
                refine z_iload F dX2_choose_42 rfl ?_
                refine z_iload_n F dX2_choose_44 rfl ?_
                refine z_cVr F (c_at hR hI hpn hj) dX2_choose_45 ml_X2_57 ok_X2_at b0 (by decide) rfl rfl rfl (Nat.le_of_ble_eq_true rfl) (by decide) (by decide) (fun r S' hr => ?_)
                obtain ⟨rfl, rfl⟩ := hr
                refine z_cVi F (K_size hK hS za) dX2_choose_48 ml_X2_77 ok_X3_size za (by decide) rfl rfl rfl (Nat.le_of_ble_eq_true rfl) (by decide) (by decide) (fun r S' hr => ?_)
                obtain ⟨rfl, rfl⟩ := hr
                refine z_aload_n F dX2_choose_51 rfl ?_
                refine z_iload_n F dX2_choose_52 rfl ?_
                refine z_iload_n F dX2_choose_53 rfl ?_
                refine z_cVr F (c_at hR hI hcn hj) dX2_choose_54 ml_X2_57 ok_X2_at b0 (by decide) rfl rfl rfl (Nat.le_of_ble_eq_true rfl) (by decide) (by decide) (fun r S' hr => ?_)
                obtain ⟨rfl, rfl⟩ := hr
                refine z_cVi F (K_size hK hS zc) dX2_choose_57 ml_X2_77 ok_X3_size zc (by decide) rfl rfl rfl (Nat.le_of_ble_eq_true rfl) (by decide) (by decide) (fun r S' hr => ?_)
                obtain ⟨rfl, rfl⟩ := hr
                rw [eT, eTc]
                have szb : ∀ x : Fr, fok x → fsz x < 2147483648 := fun x hx => by
                  have h1 := bl_le.mpr (show x.2.1 < 2 ^ 192 by have := hx.2.1; rwa [BB2] at this)
                  have h2 := bl_le.mpr (show x.2.2 < 2 ^ 192 by have := hx.2.2; rwa [BB2] at this)
                  unfold fsz
                  omega
                obtain ⟨val, bel, -, hT, -⟩ := id hK
                have o1 := szb _ (eT ▸ (hT _ za).2)
                have o2 := szb _ (eTc ▸ (hT _ zc).2)
                refine z_icmp_ge (tgt := 66) F dX2_choose_60 (by decide) (fun c5 => ?_) (fun c5 => ?_)
                · have h5 := (nI_leI o2 o1).mp c5
                  exact next (some cp) hb (by simp only [pick]; rw [if_neg (fun z => absurd z.2 (Nat.not_lt.mpr h5))])
                · have h5 := mt (nI_leI o2 o1).mpr c5
                  refine z_iload F dX2_choose_63 rfl ?_
                  refine z_istore_n_3 F dX2_choose_65 rfl ?_
                  exact next (some p) (fun c h => by cases h; exact ⟨hpn, hw1⟩) (by simp only [pick]; rw [if_pos ⟨hw1, Nat.lt_of_not_le h5⟩])
          · have hw0 : way = 0 := (nI_ne0' (by omega)).mp c3
            have hbn : b = none := by
              cases b with
              | none => rfl
              | some cp => have := (hb cp rfl).2; omega
            subst hbn
            have hst := chz_stay (M := M) (way := way) (j := j) (by omega) d (p + 1) p
            refine z_iload F dX2_choose_34 rfl ?_
            exact z_iret F dX2_choose_36 rfl ⟨by rw [← he, show pick M way j p none = some p from rfl, hst]; rfl, rfl⟩
  refine z_iconst (v := (-1)) F dX2_choose_0 (by decide) ?_
  refine z_istore_n_3 F dX2_choose_1 rfl ?_
  refine z_aload_n F dX2_choose_2 rfl ?_
  refine z_getI F dX2_choose_3 gi_X2_54 (by assumption) ?_
  refine z_ti hI.2.1 ?_
  refine z_istore_4 F dX2_choose_6 rfl ?_
  exact loop (n - t) t none (by omega) (fun c h => by cases h) rfl
end ELIM
