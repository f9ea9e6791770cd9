/-! ===== Solved ===== -/
/-- what is SOLVED: answers there are, RANK, columns, rows, sizes, unknowns -/
abbrev Sv : Type := Bool × Nat × (Nat → Nat) × (Nat → Nat) × (Nat → Nat) × (Nat → Fr)
/-- what an elimination makes SOLVED; none where something GREW -/
def solS (n : Nat) (s : El) : Option Sv := if hasA s.1 n (n - s.2.2.1) s.2.2.1 = true then (fuT s.1 s.2.2.2.1 n s.2.2.1 (fun _ => f0)).map (fun U => (true, s.2.2.1, s.2.2.2.1, s.2.1, s.2.2.2.2.1, U)) else some (false, s.2.2.1, s.2.2.2.1, s.2.1, s.2.2.2.2.1, fun _ => f0)
/-- the Solved at O: columns, rows, sizes, unknowns, product, sum -/
def sR (Z : Hz) (O n A c1 c2 c3 ua pr su : Nat) (uk : Nat → Nat) : Prop :=
  (zIn Z O 5 ∧ zR Z 5 1 O = some A ∧ zR Z 5 2 O = some c1 ∧ zR Z 5 3 O = some c2 ∧ zR Z 5 4 O = some c3 ∧ zR Z 5 5 O = some ua ∧ zR Z 5 6 O = some pr ∧ zR Z 5 7 O = some su) ∧
  (zIn Z c1 11 ∧ zn Z c1 = n ∧ zIn Z c2 11 ∧ zn Z c2 = n ∧ zIn Z c3 11 ∧ zn Z c3 = n ∧ zIn Z pr 3 ∧ zIn Z su 3 ∧ aF Z ua n uk) ∧
  (∀ i j, i < n → j < n → uk i = uk j → i = j) ∧ (∀ i, i < n → uk i ≠ pr ∧ uk i ≠ su) ∧ pr ≠ su ∧ (c1 ≠ c2 ∧ c1 ≠ c3 ∧ c2 ≠ c3) ∧ ¬ pA0 Z c1 ∧ ¬ pA0 Z c2 ∧ ¬ pA0 Z c3 ∧ 1 ≤ n ∧ n ≤ 5
/-- the Solved stands at sv -/
def sO (V : Hv) (T : Nat → Fr) (O n c1 c2 c3 : Nat) (uk : Nat → Nat) (sv : Option Sv) : Prop := vI V 5 0 O = nI n ∧ vI V 5 8 O = zb sv.isSome ∧ ∀ x, sv = some x → vI V 5 9 O = zb x.1 ∧ vI V 5 10 O = nI x.2.1 ∧ x.2.1 ≤ n ∧ (∀ p, p < x.2.1 → vA V c1 p = nI (x.2.2.1 p) ∧ vA V c2 p = nI (x.2.2.2.1 p) ∧ vA V c3 p = nI (x.2.2.2.2.1 p)) ∧ (x.1 = true → ∀ j, j < n → T (uk j) = x.2.2.2.2.2 j)
def gS (Z : Hz) (O c1 c2 c3 : Nat) (V V' : Hv) : Prop := eG (fun ci k a => pI0 ci k a ∨ (ci = 5 ∧ a = O)) (fun a => pA0 Z a ∨ a = c1 ∨ a = c2 ∨ a = c3) V V'
theorem gS.ofF {Z : Hz} {O c1 c2 c3 : Nat} {V V' : Hv} (h : eF Z V V') : gS Z O c1 c2 c3 V V' := h.g.mono (fun _ _ _ h => Or.inl h) (fun _ h => Or.inl h)
section SOLV
variable {Γ : Gm} {Z : Hz} {V : Hv} {T : Nat → Fr} {X : Nat → Nat} {uo vo w we uk ee : Nat → Nat} {E n A wk ra co fa pd O c1 c2 c3 ua pr su re : Nat}
theorem gS.setI5 {k : Nat} {x : Int32} (hK : KS Z uo vo w V T X) : KS Z uo vo w (sI V 5 k O x) T X ∧ gS Z O c1 c2 c3 V (sI V 5 k O x) := by
  have h : eG (fun ci k a => ci = 5 ∧ a = O) (fun _ => False) V (sI V 5 k O x) := eG.setI V x ⟨rfl, rfl⟩
  refine ⟨hK.keep h (fun ci k a z h9 => ?_) (fun a z => z.elim), h.mono (fun ci k a z => Or.inr z) (fun a z => z.elim)⟩
  rcases h9 with h9 | h9 <;> (rw [z.1] at h9; exact absurd h9.1 (by decide))
theorem gS.setA5 {a : Nat} {f : Nat → Int32} (hK : KS Z uo vo w V T X) (ha : a = c1 ∨ a = c2 ∨ a = c3) (hn : ¬ pA0 Z a) : KS Z uo vo w (sA V a f) T X ∧ gS Z O c1 c2 c3 V (sA V a f) := by
  have h : eG (fun _ _ _ => False) (fun b => b = a) V (sA V a f) := eG.setA V f rfl
  refine ⟨hK.keep h (fun _ _ _ z => z.elim) (fun b z => by rw [z]; exact hn), h.mono (fun _ _ _ z => z.elim) (fun b z => Or.inr (by rw [z]; exact ha))⟩
set_option maxRecDepth 100000 in
theorem c_forget {sv : Option Sv} (hK : KS Z uo vo w V T X) (hR : sR Z O n A c1 c2 c3 ua pr su uk) (hO : sO V T O n c1 c2 c3 uk sv) : zCt Γ mX6_forget 0 0 0 0 [.ref O] (Z, V) (pV (fun S' => ∃ V', S' = (Z, V') ∧ KS Z uo vo w V' T X ∧ gS Z O c1 c2 c3 V V' ∧ sO V' T O n c1 c2 c3 uk none)) := by
  refine zCt.of [some (.ref O)] pn_X6_forget rfl (Nat.le_of_ble_eq_true rfl) rfl (fun κ F => ?_)
  obtain ⟨⟨b0, b1, b2, b3, b4, b5, b6, b7⟩, -⟩ := id hR
  obtain ⟨hK2, hG2⟩ := gS.setI5 (O := O) (c1 := c1) (c2 := c2) (c3 := c3) (k := 8) (x := nI 0) hK
  refine z_aload_n F dX6_forget_0 rfl ?_
  refine z_iconst (v := nI 0) F dX6_forget_1 (by decide) ?_
  refine z_putI F dX6_forget_2 pi_X6_45 (zf_5_8 (Or.inl rfl)) (by assumption) ?_
  exact z_vret F dX6_forget_5 rfl ⟨_, rfl, hK2, hG2, by rw [vI_sI_ne _ _ (fun z => absurd z.2.1 (by decide))]; exact hO.1, by rw [vI_sI_self]; rfl, fun x h => by cases h⟩
/-- the unknowns are told -/
def svT (sv : Option Sv) : Bool := match sv with
  | none => false
  | some x => x.1
set_option maxRecDepth 100000 in
theorem c_tellsUnknowns {sv : Option Sv} (hR : sR Z O n A c1 c2 c3 ua pr su uk) (hO : sO V T O n c1 c2 c3 uk sv) : zCt Γ mX6_tellsUnknowns 0 0 0 0 [.ref O] (Z, V) (pZ (q0 Z V (svT sv))) := by
  refine zCt.of [some (.ref O)] pn_X6_tellsUnknowns rfl (Nat.le_of_ble_eq_true rfl) rfl (fun κ F => ?_)
  obtain ⟨⟨b0, b1, b2, b3, b4, b5, b6, b7⟩, -⟩ := id hR
  refine z_aload_n F dX6_tellsUnknowns_0 rfl ?_
  refine z_getI F dX6_tellsUnknowns_1 gi_X6_45 (by assumption) ?_
  refine z_ti hO.2.1 ?_
  refine z_if_eq (tgt := 18) F dX6_tellsUnknowns_4 (by decide) (fun c => ?_) (fun c => ?_)
  · have h := (zb_eq0 _).mp c
    cases sv with
    | none =>
      refine z_iconst (v := nI 0) F dX6_tellsUnknowns_18 (by decide) ?_
      exact z_zret F false dX6_tellsUnknowns_19 rfl rfl ⟨rfl, rfl⟩
    | some x => cases h
  · have h := zb_t c
    cases sv with
    | none => cases h
    | some x =>
      obtain ⟨h9, -⟩ := hO.2.2 x rfl
      refine z_aload_n F dX6_tellsUnknowns_7 rfl ?_
      refine z_getI F dX6_tellsUnknowns_8 gi_X6_73 (by assumption) ?_
      refine z_ti h9 ?_
      refine z_if_eq (tgt := 18) F dX6_tellsUnknowns_11 (by decide) (fun c2 => ?_) (fun c2 => ?_)
      · have h2 := (zb_eq0 _).mp c2
        refine z_iconst (v := nI 0) F dX6_tellsUnknowns_18 (by decide) ?_
        exact z_zret F false dX6_tellsUnknowns_19 rfl rfl ⟨h2.symm, rfl⟩
      · have h2 := zb_t c2
        refine z_iconst (v := nI 1) F dX6_tellsUnknowns_14 (by decide) ?_
        refine z_goto (tgt := 19) F dX6_tellsUnknowns_15 (by decide) ?_
        exact z_zret F true dX6_tellsUnknowns_19 rfl rfl ⟨h2.symm, rfl⟩
set_option maxRecDepth 100000 in
set_option maxHeartbeats 2000000 in
theorem c_fill {s : El} (hK : KS Z uo vo w V T X) (hJ : wInj Z) (hA : aR Z A w) (hS : fS Z uo vo w) (hRe : eR Z E n A wk ra co fa pd we) (hOe : eO V T E n ra co we s) (hR : sR Z O n A c1 c2 c3 ua pr su uk) (hn0 : vI V 5 0 O = nI n) (huw : ∀ i k, i < n → k < n * (n + 1) → uk i ≠ we k) (hup : ∀ i, i < n → uk i ≠ pd) (hx : c1 ≠ ra ∧ c1 ≠ co ∧ c2 ≠ ra ∧ c2 ≠ co ∧ c3 ≠ ra ∧ c3 ≠ co) : zCt Γ mX6_fill 6 166 0 0 [.ref O, .ref E] (Z, V) (pZ (fun r S' => ∃ V' T', S' = (Z, V') ∧ KS Z uo vo w V' T' X ∧ gS Z O c1 c2 c3 V V' ∧ tN (fun q => q = pd ∨ ∃ i, i < n ∧ q = uk i) T T' ∧ r = (solS n s).isSome ∧ sO V' T' O n c1 c2 c3 uk (solS n s))) := by
  refine zCt.of [some (.ref O), some (.ref E), none] pn_X6_fill rfl (Nat.le_of_ble_eq_true rfl) rfl (fun κ F => ?_)
  obtain ⟨⟨b0, b1, b2, b3, b4, b5, b6, b7⟩, ⟨d1, d2, d3, d4, d5, d6, d7, d8, d9⟩, hui, hups, nps, ⟨n12, n13, n23⟩, hc1, hc2, hc3, n1, n5⟩ := id hR
  obtain ⟨⟨p0, p1, p2, p3, p4, p5, p6⟩, ⟨g1, g2, g3, g4, g5, g6, g7, g8⟩, hw, hwi, nfp, nrc, hra, hco, -, -⟩ := id hRe
  obtain ⟨hIe, hMe, hpv⟩ := id hOe
  have htn := hIe.2.2.2.2.2.2
  generalize hQ : zQ Γ κ (pZ (fun r S' => ∃ V' T', S' = (Z, V') ∧ KS Z uo vo w V' T' X ∧ gS Z O c1 c2 c3 V V' ∧ tN (fun q => q = pd ∨ ∃ i, i < n ∧ q = uk i) T T' ∧ r = (solS n s).isSome ∧ sO V' T' O n c1 c2 c3 uk (solS n s))) 0 0 = Q
  -- the Elimination's ints under a change of Solved's
  have keepE : ∀ {V1 : Hv}, gS Z O c1 c2 c3 V V1 → KS Z uo vo w V1 T X → eI V1 E n ra co s.2.1 s.2.2.1 s.2.2.2.1 s.2.2.2.2.2 := by
    intro V1 hG _
    have nI2 : ∀ k, ¬ (pI0 2 k E ∨ (2 = 5 ∧ E = O)) := fun k h => by
      rcases h with (h | h) | h
      · exact absurd h.1 (by decide)
      · exact absurd h.1 (by decide)
      · exact absurd h.1 (by decide)
    have eA1 : vA V1 ra = vA V ra := hG.2.1 ra (fun h => by
      rcases h with h | h | h | h
      · exact hra h
      · exact hx.1 h.symm
      · exact hx.2.2.1 h.symm
      · exact hx.2.2.2.2.1 h.symm)
    have eA2 : vA V1 co = vA V co := hG.2.1 co (fun h => by
      rcases h with h | h | h | h
      · exact hco h
      · exact hx.2.1 h.symm
      · exact hx.2.2.2.1 h.symm
      · exact hx.2.2.2.2.2 h.symm)
    obtain ⟨i1, i2, i3, i4, i5, i6, i7⟩ := hIe
    exact ⟨(hG.1 2 0 E (nI2 0)).trans i1, (hG.1 2 7 E (nI2 7)).trans i2, (hG.1 2 8 E (nI2 8)).trans i3, fun p hp => by rw [eA1]; exact i4 p hp, i5, fun p hp => by rw [eA2]; exact i6 p hp, i7⟩
  have loop : ∀ (d i : Nat) (V1 : Hv), i + d = s.2.2.1 → KS Z uo vo w V1 T X → gS Z O c1 c2 c3 V V1 → vI V1 5 0 O = nI n → vI V1 5 10 O = nI s.2.2.1 → (∀ p, p < i → vA V1 c1 p = nI (s.2.2.2.1 p) ∧ vA V1 c2 p = nI (s.2.1 p) ∧ vA V1 c3 p = nI (s.2.2.2.2.1 p)) → zX Γ κ (Z, V1) 0 0 Q 10 [some (.ref O), some (.ref E), some (.int (nI i))] [] := by
    intro d
    induction d with
    | zero =>
      intro i V1 hi hK1 hG1 hn1 hr1 harr
      have hI1 := keepE hG1 hK1
      have hO1 : eO V1 T E n ra co we s := ⟨hI1, hMe, hpv⟩
      refine z_iload_n F dX6_fill_10 rfl ?_
      refine z_aload_n F dX6_fill_11 rfl ?_
      refine z_getI F dX6_fill_12 gi_X6_54 (by assumption) ?_
      refine z_ti hr1 ?_
      refine z_icmp_ge (tgt := 62) F dX6_fill_15 (by decide) (fun c => ?_) (fun c => ?_)
      · refine z_aload_n F dX6_fill_62 rfl ?_
        refine z_aload_n F dX6_fill_63 rfl ?_
        refine z_cVz F (c_hasAnswers hK1 hS hRe hO1) dX6_fill_64 ml_X6_69 ok_X2_hasAnswers p0 (by decide) rfl rfl rfl (Nat.le_of_ble_eq_true rfl) (by decide) (by decide) (fun r S' hr => ?_)
        obtain ⟨rfl, rfl⟩ := hr
        generalize hha : hasA s.1 n (n - s.2.2.1) s.2.2.1 = ha
        have h01 : zb ha = 0 ∨ zb ha = 1 := by cases ha; exact Or.inl rfl; exact Or.inr rfl
        obtain ⟨hK2, hG2⟩ := gS.setI5 (O := O) (c1 := c1) (c2 := c2) (c3 := c3) (k := 9) (x := zb ha) hK1
        refine z_putI F dX6_fill_67 pi_X6_73 (zf_5_9 h01) (by assumption) ?_
        obtain ⟨V2, hV2⟩ : ∃ V2, V2 = sI V1 5 9 O (zb ha) := ⟨_, rfl⟩
        rw [← hV2] at hK2 hG2
        refine z_V hV2.symm ?_
        have v29 : vI V2 5 9 O = zb ha := by rw [hV2, vI_sI_self]
        have v20 : vI V2 5 0 O = nI n := by rw [hV2, vI_sI_ne _ _ (fun z => absurd z.2.1 (by decide))]; exact hn1
        have v210 : vI V2 5 10 O = nI s.2.2.1 := by rw [hV2, vI_sI_ne _ _ (fun z => absurd z.2.1 (by decide))]; exact hr1
        have harr2 : ∀ p, p < s.2.2.1 → vA V2 c1 p = nI (s.2.2.2.1 p) ∧ vA V2 c2 p = nI (s.2.1 p) ∧ vA V2 c3 p = nI (s.2.2.2.2.1 p) := fun p hp => by rw [hV2]; exact harr p (by omega)
        have hI2 := keepE (hG1.trans hG2) hK2
        -- the end, with 'there' as told
        have fin : ∀ (V3 : Hv) (T3 : Nat → Fr) (x : Int32), x = zb (solS n s).isSome → KS Z uo vo w V3 T3 X → eF Z V2 V3 → tN (fun q => q = pd ∨ ∃ i, i < n ∧ q = uk i) T T3 → (∀ y, solS n s = some y → y.1 = ha ∧ y.2.1 = s.2.2.1 ∧ y.2.2.1 = s.2.2.2.1 ∧ y.2.2.2.1 = s.2.1 ∧ y.2.2.2.2.1 = s.2.2.2.2.1 ∧ (y.1 = true → ∀ j, j < n → T3 (uk j) = y.2.2.2.2.2 j)) → zX Γ κ (Z, V3) 0 0 Q 94 [some (.ref O), some (.ref E), some (.int (nI i))] [.int x, .ref O] := by
          intro V3 T3 x hx9 hK3 hF3 hT3 hy
          have hx01 : x = 0 ∨ x = 1 := by rw [hx9]; cases (solS n s).isSome; exact Or.inl rfl; exact Or.inr rfl
          obtain ⟨hK4, hG4⟩ := gS.setI5 (O := O) (c1 := c1) (c2 := c2) (c3 := c3) (k := 8) (x := x) hK3
          have nI5 : ∀ k, ¬ pI0 5 k O := fun k h => by
            rcases h with h | h <;> exact absurd h.1 (by decide)
          have e8 : vI (sI V3 5 8 O x) 5 8 O = zb (solS n s).isSome := by rw [vI_sI_self]; exact hx9
          subst hQ
          refine z_putI F dX6_fill_94 pi_X6_45 (zf_5_8 hx01) (by assumption) ?_
          refine z_aload_n F dX6_fill_97 rfl ?_
          refine z_getI F dX6_fill_98 gi_X6_45 (by assumption) ?_
          refine z_ti e8 ?_
          exact z_zret F _ dX6_fill_101 rfl rfl ⟨_, T3, rfl, hK4, ((hG1.trans hG2).trans (gS.ofF hF3)).trans hG4, hT3, rfl, by rw [vI_sI_ne _ _ (fun z => absurd z.2.1 (by decide)), hF3.g.1 _ _ _ (nI5 0)]; exact v20, e8, fun y hy9 => by
            obtain ⟨y1, y2, y3, y4, y5, y6⟩ := hy y hy9
            refine ⟨?_, ?_, by rw [y2]; exact htn, fun p hp => ?_, y6⟩
            · rw [vI_sI_ne _ _ (fun z => absurd z.2.1 (by decide)), hF3.g.1 _ _ _ (nI5 9), y1]; exact v29
            · rw [vI_sI_ne _ _ (fun z => absurd z.2.1 (by decide)), hF3.g.1 _ _ _ (nI5 10), y2]; exact v210
            · rw [y2] at hp
              show vA V3 c1 p = _ ∧ vA V3 c2 p = _ ∧ vA V3 c3 p = _
              rw [hF3.g.2.1 c1 hc1, hF3.g.2.1 c2 hc2, hF3.g.2.1 c3 hc3, y3, y4, y5]
              exact harr2 p hp⟩
        refine z_aload_n F dX6_fill_70 rfl ?_
        refine z_aload_n F dX6_fill_71 rfl ?_
        refine z_getI F dX6_fill_72 gi_X6_73 (by assumption) ?_
        refine z_ti v29 ?_
        refine z_if_eq (tgt := 89) F dX6_fill_75 (by decide) (fun c2 => ?_) (fun c2 => ?_)
        · have h := (zb_eq0 _).mp c2
          have hsol : solS n s = some (false, s.2.2.1, s.2.2.2.1, s.2.1, s.2.2.2.2.1, fun _ => f0) := by
            unfold solS
            rw [hha, h]
            rfl
          refine z_iconst (v := nI 1) F dX6_fill_89 (by decide) ?_
          refine z_goto (tgt := 94) F dX6_fill_90 (by decide) ?_
          refine fin V2 T _ (by rw [hsol]; rfl) hK2 (eF.refl _ _) (tN.refl _ _) (fun y hy => ?_)
          rw [hsol] at hy
          cases hy
          exact ⟨h.symm, rfl, rfl, rfl, rfl, fun z => by cases z⟩
        · have h := zb_t c2
          subst h
          have hsol : solS n s = (fuT s.1 s.2.2.2.1 n s.2.2.1 (fun _ => f0)).map (fun U => (true, s.2.2.1, s.2.2.2.1, s.2.1, s.2.2.2.2.1, U)) := by
            unfold solS
            rw [hha, if_pos rfl]
          refine z_aload_n F dX6_fill_78 rfl ?_
          refine z_aload_n F dX6_fill_79 rfl ?_
          refine z_getR F dX6_fill_80 gr_X6_41 (by assumption) (by assumption) ?_
          refine z_cVz F (c_findUnknowns hK2 hJ hA hS hRe ⟨hI2, hMe, hpv⟩ d9 hui huw hup) dX6_fill_83 ml_X6_75 ok_X2_findUnknowns p0 (by decide) rfl rfl rfl (Nat.le_of_ble_eq_true rfl) (by decide) (by decide) (fun r S' hr => ?_)
          obtain ⟨V3, T3, rfl, hK3, hF3, hT3, hcase⟩ := hr
          rcases hcase with ⟨hn9, rfl⟩ | ⟨U, hU, rfl, hUj⟩
          · rw [hn9] at hsol
            refine z_if_eq (tgt := 93) F dX6_fill_86 (by decide) (fun c3 => ?_) (fun c3 => ?_)
            · refine z_iconst (v := nI 0) F dX6_fill_93 (by decide) ?_
              exact fin V3 T3 _ (by rw [hsol]; rfl) hK3 hF3 hT3 (fun y hy => by rw [hsol] at hy; cases hy)
            · exact absurd rfl c3
          · rw [hU] at hsol
            refine z_if_eq (tgt := 93) F dX6_fill_86 (by decide) (fun c3 => ?_) (fun c3 => ?_)
            · exact absurd c3 (by decide)
            · refine z_iconst (v := nI 1) F dX6_fill_89 (by decide) ?_
              refine z_goto (tgt := 94) F dX6_fill_90 (by decide) ?_
              refine fin V3 T3 _ (by rw [hsol]; rfl) hK3 hF3 hT3 (fun y hy => ?_)
              rw [hsol] at hy
              cases hy
              exact ⟨rfl, rfl, rfl, rfl, rfl, fun _ => hUj⟩
      · exact absurd (nI_le (by omega) (by omega)) c
    | succ d ih =>
      intro i V1 hi hK1 hG1 hn1 hr1 harr
      have hit : i < s.2.2.1 := by omega
      have hin : i < n := by omega
      have cl : (nI i).toNatClampNeg = i := nI_clamp (by omega)
      have hI1 := keepE hG1 hK1
      have i1 : vp_in (nI i) (zn Z c1) := by rw [d2]; exact vp_in_nI hin (by omega)
      have i2 : vp_in (nI i) (zn Z c2) := by rw [d4]; exact vp_in_nI hin (by omega)
      have i3 : vp_in (nI i) (zn Z c3) := by rw [d6]; exact vp_in_nI hin (by omega)
      have ir : vp_in (nI i) (zn Z ra) := by rw [g4]; exact vp_in_nI hin (by omega)
      have ic : vp_in (nI i) (zn Z co) := by rw [g6]; exact vp_in_nI hin (by omega)
      have rc : vA V1 co (nI i).toNatClampNeg = nI (s.2.2.2.1 i) := by rw [cl]; exact (hI1.2.2.2.2.2.1 i hit).1
      refine z_iload_n F dX6_fill_10 rfl ?_
      refine z_aload_n F dX6_fill_11 rfl ?_
      refine z_getI F dX6_fill_12 gi_X6_54 (by assumption) ?_
      refine z_ti hr1 ?_
      refine z_icmp_ge (tgt := 62) F dX6_fill_15 (by decide) (fun c => ?_) (fun c => ?_)
      · exact absurd ((nI_leI (by omega) (by omega)).mp c) (by omega)
      · refine z_aload_n F dX6_fill_18 rfl ?_
        refine z_getR F dX6_fill_19 gr_X6_27 (by assumption) (by assumption) ?_
        refine z_iload_n F dX6_fill_22 rfl ?_
        refine z_aload_n F dX6_fill_23 rfl ?_
        refine z_getR F dX6_fill_24 gr_X6_55 (by assumption) (by assumption) ?_
        refine z_iload_n F dX6_fill_27 rfl ?_
        refine z_iald F dX6_fill_28 (by assumption) ic ?_
        refine z_ti rc ?_
        refine z_iast F dX6_fill_29 (by assumption) i1 ?_
        obtain ⟨hK2, hG2⟩ := gS.setA5 (O := O) (c1 := c1) (c2 := c2) (c3 := c3) (f := upd (vA V1 c1) (nI i).toNatClampNeg (nI (s.2.2.2.1 i))) hK1 (Or.inl rfl) hc1
        obtain ⟨V2, hV2⟩ : ∃ V2, V2 = sA V1 c1 (upd (vA V1 c1) (nI i).toNatClampNeg (nI (s.2.2.2.1 i))) := ⟨_, rfl⟩
        rw [← hV2] at hK2 hG2
        refine z_V hV2.symm ?_
        have hI2 := keepE (hG1.trans hG2) hK2
        have rr : vA V2 ra (nI i).toNatClampNeg = nI (s.2.1 i) := by rw [cl]; exact (hI2.2.2.2.1 i hin).1
        refine z_aload_n F dX6_fill_30 rfl ?_
        refine z_getR F dX6_fill_31 gr_X6_31 (by assumption) (by assumption) ?_
        refine z_iload_n F dX6_fill_34 rfl ?_
        refine z_aload_n F dX6_fill_35 rfl ?_
        refine z_getR F dX6_fill_36 gr_X6_58 (by assumption) (by assumption) ?_
        refine z_iload_n F dX6_fill_39 rfl ?_
        refine z_iald F dX6_fill_40 (by assumption) ir ?_
        refine z_ti rr ?_
        refine z_iast F dX6_fill_41 (by assumption) i2 ?_
        obtain ⟨hK3, hG3⟩ := gS.setA5 (O := O) (c1 := c1) (c2 := c2) (c3 := c3) (f := upd (vA V2 c2) (nI i).toNatClampNeg (nI (s.2.1 i))) hK2 (Or.inr (Or.inl rfl)) hc2
        obtain ⟨V3, hV3⟩ : ∃ V3, V3 = sA V2 c2 (upd (vA V2 c2) (nI i).toNatClampNeg (nI (s.2.1 i))) := ⟨_, rfl⟩
        rw [← hV3] at hK3 hG3
        refine z_V hV3.symm ?_
        have hI3 := keepE ((hG1.trans hG2).trans hG3) hK3
        have zp := eR.at hRe hI3 (p := i) hin (Nat.le_of_lt (hI3.2.2.2.2.2.1 i hit).2)
        have eTp := hMe i (s.2.2.2.1 i) hin (Nat.le_of_lt (hI3.2.2.2.2.2.1 i hit).2)
        refine z_aload_n F dX6_fill_42 rfl ?_
        refine z_getR F dX6_fill_43 gr_X6_34 (by assumption) (by assumption) ?_
        refine z_iload_n F dX6_fill_46 rfl ?_
        refine z_aload_n F dX6_fill_47 rfl ?_
        refine z_iload_n F dX6_fill_48 rfl ?_
        refine z_cVr F (c_pivotAt hRe hI3 hit) dX6_fill_49 ml_X6_61 ok_X2_pivotAt p0 (by decide) rfl rfl rfl (Nat.le_of_ble_eq_true rfl) (by decide) (by decide) (fun r S' hr => ?_)
        obtain ⟨rfl, rfl⟩ := hr
        refine z_cVi F (K_size hK3 hS zp) dX6_fill_52 ml_X6_65 ok_X3_size zp (by decide) rfl rfl rfl (Nat.le_of_ble_eq_true rfl) (by decide) (by decide) (fun r S' hr => ?_)
        obtain ⟨rfl, rfl⟩ := hr
        have esz : nI (bl (T (we (s.2.1 i * (n + 1) + s.2.2.2.1 i))).2.1 + bl (T (we (s.2.1 i * (n + 1) + s.2.2.2.1 i))).2.2) = nI (s.2.2.2.2.1 i) := by rw [eTp, (hpv i hit).2]
        refine z_ti esz ?_
        refine z_iast F dX6_fill_55 (by assumption) i3 ?_
        obtain ⟨hK4, hG4⟩ := gS.setA5 (O := O) (c1 := c1) (c2 := c2) (c3 := c3) (f := upd (vA V3 c3) (nI i).toNatClampNeg (nI (s.2.2.2.2.1 i))) hK3 (Or.inr (Or.inr rfl)) hc3
        refine z_iinc_2 F dX6_fill_56 rfl ?_
        refine z_goto (tgt := 10) F dX6_fill_59 (by decide) ?_
        rw [show nI i + Int32.ofInt 1 = nI (i + 1) from nI_1 i]
        refine ih (i + 1) _ (by omega) hK4 (((hG1.trans hG2).trans hG3).trans hG4) (by rw [hV3, hV2]; exact hn1) (by rw [hV3, hV2]; exact hr1) (fun p hp => ?_)
        have a1 : vA (sA V3 c3 (upd (vA V3 c3) (nI i).toNatClampNeg (nI (s.2.2.2.2.1 i)))) c1 p = upd (vA V1 c1) i (nI (s.2.2.2.1 i)) p := by rw [vA_sA_ne _ _ n13, hV3, vA_sA_ne _ _ n12, hV2, vA_sA_self, cl]
        have a2 : vA (sA V3 c3 (upd (vA V3 c3) (nI i).toNatClampNeg (nI (s.2.2.2.2.1 i)))) c2 p = upd (vA V1 c2) i (nI (s.2.1 i)) p := by rw [vA_sA_ne _ _ n23, hV3, vA_sA_self, hV2, vA_sA_ne _ _ (Ne.symm n12), cl]
        have a3 : vA (sA V3 c3 (upd (vA V3 c3) (nI i).toNatClampNeg (nI (s.2.2.2.2.1 i)))) c3 p = upd (vA V1 c3) i (nI (s.2.2.2.2.1 i)) p := by rw [vA_sA_self, hV3, vA_sA_ne _ _ (Ne.symm n23), hV2, vA_sA_ne _ _ (Ne.symm n13), cl]
        rw [a1, a2, a3]
        by_cases e : p = i
        · rw [e, pk_us, pk_us, pk_us]; exact ⟨rfl, rfl, rfl⟩
        · rw [pk_un e, pk_un e, pk_un e]; exact harr p (by omega)
  obtain ⟨hK1, hG1⟩ := gS.setI5 (O := O) (c1 := c1) (c2 := c2) (c3 := c3) (k := 10) (x := nI s.2.2.1) hK
  refine z_aload_n F dX6_fill_0 rfl ?_
  refine z_aload_n F dX6_fill_1 rfl ?_
  refine z_getI F dX6_fill_2 gi_X6_49 (by assumption) ?_
  refine z_ti hIe.2.1 ?_
  refine z_putI F dX6_fill_5 pi_X6_54 (zf_5_10 _) (by assumption) ?_
  refine z_iconst (v := nI 0) F dX6_fill_8 (by decide) ?_
  refine z_istore_n_2 F dX6_fill_9 rfl ?_
  refine loop s.2.2.1 0 _ (by omega) hK1 hG1 ?_ (vI_sI_self _ _ _ _ _) (fun p hp => absurd hp (Nat.not_lt_zero p))
  rw [vI_sI_ne _ _ (fun z => absurd z.2.1 (by decide))]
  exact hn0
set_option maxRecDepth 100000 in
set_option maxHeartbeats 1000000 in
theorem c_addUp {i : Nat} {U : Nat → Fr} (hK : KS Z uo vo w V T X) (hJ : wInj Z) (hA : aR Z A w) (hS : fS Z uo vo w) (hR : sR Z O n A c1 c2 c3 ua pr su uk) (hn0 : vI V 5 0 O = nI n) (hU : ∀ j, j < n → T (uk j) = U j) (hre : aF Z re (n * (n + 1)) ee) (hep : ∀ k, k < n * (n + 1) → ee k ≠ pr ∧ ee k ≠ su) (hi : i < n) : zCt Γ mX6_addUp 5 141 0 0 [.ref O, .ref re, .int (nI i)] (Z, V) (pZ (fun r S' => ∃ V' T', S' = (Z, V') ∧ KS Z uo vo w V' T' X ∧ eF Z V V' ∧ tN (fun q => q = pr ∨ q = su) T T' ∧ ((sumR (fun k => T (ee (i * (n + 1) + k))) U n 0 f0 = none ∧ r = false) ∨ ∃ x, sumR (fun k => T (ee (i * (n + 1) + k))) U n 0 f0 = some x ∧ r = true ∧ T' su = x))) := by
  refine zCt.of [some (.ref O), some (.ref re), some (.int (nI i)), none, none] pn_X6_addUp rfl (Nat.le_of_ble_eq_true rfl) rfl (fun κ F => ?_)
  obtain ⟨⟨b0, b1, b2, b3, b4, b5, b6, b7⟩, ⟨d1, d2, d3, d4, d5, d6, d7, d8, u1, u2, u3⟩, hui, hups, nps, -, hc1, hc2, hc3, n1, n5⟩ := id hR
  obtain ⟨r1, r2, r3⟩ := hre
  have h30 := nn30 n5
  obtain ⟨Rw, hRw⟩ : ∃ Rw : Nat → Fr, Rw = fun k => T (ee (i * (n + 1) + k)) := ⟨_, rfl⟩
  rw [← hRw]
  generalize hQ : zQ Γ κ (pZ (fun r S' => ∃ V' T', S' = (Z, V') ∧ KS Z uo vo w V' T' X ∧ eF Z V V' ∧ tN (fun q => q = pr ∨ q = su) T T' ∧ ((sumR Rw U n 0 f0 = none ∧ r = false) ∨ ∃ x, sumR Rw U n 0 f0 = some x ∧ r = true ∧ T' su = x))) 0 0 = Q
  have loop : ∀ (d k : Nat) (V1 : Hv) (T1 : Nat → Fr) (x : Fr) (l4 : Option Value), k + d = n → KS Z uo vo w V1 T1 X → eF Z V V1 → tN (fun q => q = pr ∨ q = su) T T1 → T1 su = x → sumR Rw U d k x = sumR Rw U n 0 f0 → zX Γ κ (Z, V1) 0 0 Q 9 [some (.ref O), some (.ref re), some (.int (nI i)), some (.int (nI k)), l4] [] := by
    intro d
    induction d with
    | zero =>
      intro k V1 T1 x l4 hk hK1 hF1 hT1 hx hsp
      have v0 : vI V1 5 0 O = nI n := by rw [hF1.g.1 _ _ _ (fun h => by rcases h with h | h <;> exact absurd h.1 (by decide))]; exact hn0
      refine z_iload_n F dX6_addUp_9 rfl ?_
      refine z_aload_n F dX6_addUp_10 rfl ?_
      refine z_getI F dX6_addUp_11 gi_X6_19 (by assumption) ?_
      refine z_ti v0 ?_
      refine z_icmp_ge (tgt := 85) F dX6_addUp_14 (by decide) (fun c => ?_) (fun c => ?_)
      · subst hQ
        refine z_iconst (v := nI 1) F dX6_addUp_85 (by decide) ?_
        exact z_zret F true dX6_addUp_86 rfl rfl ⟨V1, T1, rfl, hK1, hF1, hT1, Or.inr ⟨x, hsp.symm, rfl, hx⟩⟩
      · exact absurd (nI_le (by omega) (by omega)) c
    | succ d ih =>
      intro k V1 T1 x l4 hk hK1 hF1 hT1 hx hsp
      have hkn : k < n := by omega
      have hlt := idx_lt hi (Nat.le_of_lt hkn)
      have v0 : vI V1 5 0 O = nI n := by rw [hF1.g.1 _ _ _ (fun h => by rcases h with h | h <;> exact absurd h.1 (by decide))]; exact hn0
      have ine : vp_in (nI (i * (n + 1) + k)) (zn Z re) := by rw [r2]; exact vp_in_nI hlt (by omega)
      have re1 : zA Z re (nI (i * (n + 1) + k)).toNatClampNeg = some (ee (i * (n + 1) + k)) := by rw [nI_clamp (by omega)]; exact (r3 _ hlt).1
      have inu : vp_in (nI k) (zn Z ua) := by rw [u2]; exact vp_in_nI hkn (by omega)
      have ru : zA Z ua (nI k).toNatClampNeg = some (uk k) := by rw [nI_clamp (by omega)]; exact (u3 k hkn).1
      have ze := (r3 _ hlt).2
      have zu := (u3 k hkn).2
      have eTe : T1 (ee (i * (n + 1) + k)) = Rw k := by
        rw [hT1 _ (fun h => by rcases h with h | h; exact (hep _ hlt).1 h; exact (hep _ hlt).2 h), hRw]
      have eTu : T1 (uk k) = U k := by
        rw [hT1 _ (fun h => by rcases h with h | h; exact (hups k hkn).1 h; exact (hups k hkn).2 h)]; exact hU k hkn
      obtain ⟨p9, hp9⟩ : ∃ p9, p9 = fmul (Rw k) (U k) false := ⟨_, rfl⟩
      obtain ⟨sm, hsm⟩ : ∃ sm, sm = fadd x p9 false := ⟨_, rfl⟩
      have hst : sumR Rw U (d + 1) k x = if wideB p9 = true then (if wideB sm = true then sumR Rw U d (k + 1) sm else none) else none := by rw [hsm, hp9]; rfl
      rw [hst] at hsp
      have bad : ∀ (V2 : Hv) (T2 : Nat → Fr) (l4 : Option Value), KS Z uo vo w V2 T2 X → eF Z V V2 → tN (fun q => q = pr ∨ q = su) T T2 → sumR Rw U n 0 f0 = none → zX Γ κ (Z, V2) 0 0 Q 77 [some (.ref O), some (.ref re), some (.int (nI i)), some (.int (nI k)), l4] [] := by
        intro V2 T2 l4 hK2 hF2 hT2 hn
        subst hQ
        refine z_iconst (v := nI 0) F dX6_addUp_77 (by decide) ?_
        exact z_zret F false dX6_addUp_78 rfl rfl ⟨V2, T2, rfl, hK2, hF2, hT2, Or.inl ⟨hn, rfl⟩⟩
      refine z_iload_n F dX6_addUp_9 rfl ?_
      refine z_aload_n F dX6_addUp_10 rfl ?_
      refine z_getI F dX6_addUp_11 gi_X6_19 (by assumption) ?_
      refine z_ti v0 ?_
      refine z_icmp_ge (tgt := 85) F dX6_addUp_14 (by decide) (fun c => ?_) (fun c => ?_)
      · exact absurd ((nI_leI (by omega) (by omega)).mp c) (by omega)
      · refine z_aload_n F dX6_addUp_17 rfl ?_
        refine z_iload_n F dX6_addUp_18 rfl ?_
        refine z_aload_n F dX6_addUp_19 rfl ?_
        refine z_getI F dX6_addUp_20 gi_X6_19 (by assumption) ?_
        refine z_ti v0 ?_
        refine z_iconst (v := nI 1) F dX6_addUp_23 (by decide) ?_
        refine z_iadd F dX6_addUp_24 ?_
        refine z_ti (nI_add n 1) ?_
        refine z_imul F dX6_addUp_25 ?_
        refine z_ti (pk_mul _ _) ?_
        refine z_iload_n F dX6_addUp_26 rfl ?_
        refine z_iadd F dX6_addUp_27 ?_
        refine z_ti (nI_add _ _) ?_
        refine z_aald F dX6_addUp_28 (by assumption) ine re1 ?_
        refine z_astore_4 F dX6_addUp_29 rfl ?_
        refine z_aload_n F dX6_addUp_31 rfl ?_
        refine z_getR F dX6_addUp_32 gr_X6_23 (by assumption) (by assumption) ?_
        refine z_aload F dX6_addUp_35 rfl ?_
        refine z_aload_n F dX6_addUp_37 rfl ?_
        refine z_getR F dX6_addUp_38 gr_X6_41 (by assumption) (by assumption) ?_
        refine z_iload_n F dX6_addUp_41 rfl ?_
        refine z_aald F dX6_addUp_42 (by assumption) inu ru ?_
        refine z_iconst (v := nI 0) F dX6_addUp_43 (by decide) ?_
        refine z_aload_n F dX6_addUp_44 rfl ?_
        refine z_getR F dX6_addUp_45 gr_X6_10 (by assumption) (by assumption) ?_
        refine z_cVz F (K_multiply (d := false) hK1 hJ hA hS ze zu d7 (fun h => by cases h)) dX6_addUp_48 ml_X6_82 ok_X0_multiply hA.1 (by decide) rfl rfl rfl (Nat.le_of_ble_eq_true rfl) (by decide) (by decide) (fun r S' hr => ?_)
        obtain ⟨rfl, V2, rfl, hK2, hF2⟩ := hr
        rw [eTe, eTu, ← hp9] at hK2 ⊢
        refine z_if_eq (tgt := 77) F dX6_addUp_51 (by decide) (fun c2 => ?_) (fun c2 => ?_)
        · have hwp := zb_f c2
          rw [upW_f hwp] at hK2
          rw [if_neg hwp] at hsp
          exact bad V2 T1 _ hK2 (hF1.trans hF2) hT1 hsp.symm
        · have hwp := zb_t c2
          rw [upW_t hwp] at hK2
          rw [if_pos hwp] at hsp
          have t2s : va_up T1 pr p9 su = x := by rw [up_ne _ _ (Ne.symm nps), hx]
          have t2p : va_up T1 pr p9 pr = p9 := up_self _ _ _
          refine z_aload_n F dX6_addUp_54 rfl ?_
          refine z_getR F dX6_addUp_55 gr_X6_23 (by assumption) (by assumption) ?_
          refine z_aload_n F dX6_addUp_58 rfl ?_
          refine z_getR F dX6_addUp_59 gr_X6_16 (by assumption) (by assumption) ?_
          refine z_aload_n F dX6_addUp_62 rfl ?_
          refine z_getR F dX6_addUp_63 gr_X6_10 (by assumption) (by assumption) ?_
          refine z_iconst (v := nI 0) F dX6_addUp_66 (by decide) ?_
          refine z_aload_n F dX6_addUp_67 rfl ?_
          refine z_getR F dX6_addUp_68 gr_X6_16 (by assumption) (by assumption) ?_
          refine z_cVz F (K_add (d := false) hK2 hJ hA hS d8 d7 d8) dX6_addUp_71 ml_X6_88 ok_X0_add hA.1 (by decide) rfl rfl rfl (Nat.le_of_ble_eq_true rfl) (by decide) (by decide) (fun r S' hr => ?_)
          obtain ⟨rfl, V3, rfl, hK3, hF3⟩ := hr
          rw [t2s, t2p, ← hsm] at hK3 ⊢
          refine z_if_ne (tgt := 79) F dX6_addUp_74 (by decide) (fun c3 => ?_) (fun c3 => ?_)
          · have hws := zb_t c3
            rw [upW_t hws] at hK3
            rw [if_pos hws] at hsp
            refine z_iinc_3 F dX6_addUp_79 rfl ?_
            refine z_goto (tgt := 9) F dX6_addUp_82 (by decide) ?_
            rw [show nI k + Int32.ofInt 1 = nI (k + 1) from nI_1 k]
            exact ih (k + 1) V3 _ sm _ (by omega) hK3 ((hF1.trans hF2).trans hF3) ((hT1.trans (tN.up (Or.inl rfl))).trans (tN.up (Or.inr rfl))) (up_self _ _ _) hsp
          · have hws := zb_f c3
            rw [upW_f hws] at hK3
            rw [if_neg hws] at hsp
            exact bad V3 _ _ hK3 ((hF1.trans hF2).trans hF3) (hT1.trans (tN.up (Or.inl rfl))) hsp.symm
  refine z_aload_n F dX6_addUp_0 rfl ?_
  refine z_getR F dX6_addUp_1 gr_X6_16 (by assumption) (by assumption) ?_
  refine z_cVv F (K_setZero hK hJ hS d8) dX6_addUp_4 ml_X6_79 ok_X3_setZero d8 (by decide) rfl rfl rfl (Nat.le_of_ble_eq_true rfl) (by decide) (by decide) (fun S' hS' => ?_)
  obtain ⟨V1, rfl, hK1, hF1⟩ := hS'
  refine z_iconst (v := nI 0) F dX6_addUp_7 (by decide) ?_
  refine z_istore_n_3 F dX6_addUp_8 rfl ?_
  exact loop n 0 V1 _ f0 none (by omega) hK1 hF1 (tN.up (Or.inr rfl)) (up_self _ _ _) rfl
end SOLV
