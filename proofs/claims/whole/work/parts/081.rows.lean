/-! ===== FractionRows: the objects, what they stand for ===== -/
section SWT
variable {Γ : Gm} {κ : Cx} {S : Hs} {cs sl pc : Nat} {Q : State → Prop} {lv : Lv} {st : List Value} {M : Mm} {R : Room}
theorem z_tsOut (F : zFx Γ κ M R) {dflt lo hi : Int} {offs : Array Int} {len : Nat} {x : Int32} {tgt : Nat} (hd : decode (mb M) pc = .ok (.tableswitch dflt lo hi offs, len)) (h : x.toInt < lo ∨ hi < x.toInt) (ht : (pc : Int) + dflt = (tgt : Int)) (k : zX Γ κ S cs sl Q tgt lv st) : zX Γ κ S cs sl Q pc lv (.int x :: st) := fun H locs ls a b c => lv_tableOut F.1 F.2.1 hd h ht (k H locs ls a b c)
theorem z_tsIn (F : zFx Γ κ M R) {dflt lo hi : Int} {offs : Array Int} {len : Nat} {x : Int32} {off : Int} {tgt : Nat} (hd : decode (mb M) pc = .ok (.tableswitch dflt lo hi offs, len)) (h1 : ¬ x.toInt < lo) (h2 : ¬ hi < x.toInt) (ho : offs[(x.toInt - lo).toNat]? = some off) (ht : (pc : Int) + off = (tgt : Int)) (k : zX Γ κ S cs sl Q tgt lv st) : zX Γ κ S cs sl Q pc lv (.int x :: st) := fun H locs ls a b c => lv_tableIn F.1 F.2.1 hd h1 h2 ho ht (k H locs ls a b c)
end SWT
/-- the addresses: single ones, families -/
abbrev Ga : Type := (Nat → Nat) × (Nat → Nat → Nat)
abbrev Ga.x (G : Ga) : Nat := G.1 0
abbrev Ga.A (G : Ga) : Nat := G.1 1
abbrev Ga.na (G : Ga) : Nat := G.1 2
abbrev Ga.ea (G : Ga) : Nat := G.1 3
abbrev Ga.E (G : Ga) : Nat := G.1 4
abbrev Ga.D (G : Ga) : Nat := G.1 5
abbrev Ga.SO (G : Ga) : Nat := G.1 6
abbrev Ga.J (G : Ga) : Nat := G.1 7
abbrev Ga.Y (G : Ga) : Nat := G.1 8
abbrev Ga.wk (G : Ga) : Nat := G.1 9
abbrev Ga.ra (G : Ga) : Nat := G.1 10
abbrev Ga.co (G : Ga) : Nat := G.1 11
abbrev Ga.fa (G : Ga) : Nat := G.1 12
abbrev Ga.pd (G : Ga) : Nat := G.1 13
abbrev Ga.oa (G : Ga) : Nat := G.1 14
abbrev Ga.pr (G : Ga) : Nat := G.1 15
abbrev Ga.c1 (G : Ga) : Nat := G.1 16
abbrev Ga.c2 (G : Ga) : Nat := G.1 17
abbrev Ga.c3 (G : Ga) : Nat := G.1 18
abbrev Ga.ua (G : Ga) : Nat := G.1 19
abbrev Ga.pq (G : Ga) : Nat := G.1 20
abbrev Ga.su (G : Ga) : Nat := G.1 21
abbrev Ga.t1 (G : Ga) : Nat := G.1 22
abbrev Ga.t2 (G : Ga) : Nat := G.1 23
abbrev Ga.t3 (G : Ga) : Nat := G.1 24
abbrev Ga.ba (G : Ga) : Nat := G.1 25
abbrev Ga.n (G : Ga) : Nat := G.1 26
abbrev Ga.nu (G : Ga) : Nat → Nat := G.2 0
abbrev Ga.ee (G : Ga) : Nat → Nat := G.2 1
abbrev Ga.we (G : Ga) : Nat → Nat := G.2 2
abbrev Ga.uk (G : Ga) : Nat → Nat := G.2 3
abbrev Ga.uo (G : Ga) : Nat → Nat := G.2 4
abbrev Ga.vo (G : Ga) : Nat → Nat := G.2 5
abbrev Ga.w (G : Ga) : Nat → Nat := G.2 6
abbrev Ga.jw (G : Ga) : Nat → Nat := G.2 7
/-- what an address is for -/
abbrev Ga.fc (G : Ga) : Nat → Nat := G.2 8
/-- what the addresses are for, told apart -/
def xD (G : Ga) : Prop := ((∀ i, i < 40 → G.fc (G.nu i) = 1) ∧ (∀ k, k < G.n * (G.n + 1) → G.fc (G.ee k) = 2) ∧ (∀ k, k < G.n * (G.n + 1) → G.fc (G.we k) = 3) ∧ G.fc G.fa = 4 ∧ G.fc G.pd = 5 ∧ G.fc G.pr = 6 ∧ (∀ j, j < G.n → G.fc (G.uk j) = 7) ∧ G.fc G.pq = 8 ∧ G.fc G.su = 9) ∧ ((∀ k, 1 ≤ k → k ≤ 8 → G.fc (G.jw k) = 10) ∧ G.fc G.t1 = 11 ∧ G.fc G.t2 = 11 ∧ G.fc G.t3 = 11) ∧ (G.fc G.ra = 12 ∧ G.fc G.co = 13 ∧ G.fc G.oa = 14 ∧ G.fc G.c1 = 15 ∧ G.fc G.c2 = 16 ∧ G.fc G.c3 = 17) ∧ (∀ i j, i < 40 → j < 40 → G.nu i = G.nu j → i = j) ∧ (∀ i j, i < G.n * (G.n + 1) → j < G.n * (G.n + 1) → G.ee i = G.ee j → i = j)
def xR (Z : Hz) (G : Ga) : Prop := (zIn Z G.x 8 ∧ zR Z 8 1 G.x = some G.A ∧ zR Z 8 2 G.x = some G.na ∧ zR Z 8 3 G.x = some G.ea ∧ zR Z 8 4 G.x = some G.E ∧ zR Z 8 5 G.x = some G.D ∧ zR Z 8 6 G.x = some G.SO ∧ zR Z 8 7 G.x = some G.J ∧ zR Z 8 8 G.x = some G.Y) ∧ (wInj Z ∧ fS Z G.uo G.vo G.w ∧ aR Z G.A G.w) ∧ (aF Z G.na 40 G.nu ∧ aF Z G.ea (G.n * (G.n + 1)) G.ee) ∧ (eR Z G.E G.n G.A G.wk G.ra G.co G.fa G.pd G.we ∧ dR Z G.D G.n G.A G.oa G.pr ∧ sR Z G.SO G.n G.A G.c1 G.c2 G.c3 G.ua G.pq G.su G.uk ∧ jR Z G.uo G.vo G.w G.J G.A G.jw ∧ tR Z G.uo G.vo G.w G.Y G.A G.t1 G.t2 G.t3 G.ba) ∧ xD G
/-- the objects stand for s: by the Fractions T and the Wholes X -/
def rCT (Z : Hz) (G : Ga) (V : Hv) (T : Nat → Fr) (X : Nat → Nat) (s : St) : Prop := KS Z G.uo G.vo G.w V T X ∧ (vI V 8 0 G.x = nI G.n ∧ vI V 8 9 G.x = nI (tc s) ∧ tc s ≤ 40 ∧ vI V 8 10 G.x = tg s ∧ vI V 2 0 G.E = nI G.n ∧ vI V 1 0 G.D = nI G.n) ∧ (∀ i, i < tc s → T (G.nu i) = tn s i) ∧ (∀ p k, p < G.n → k ≤ G.n → T (G.ee (p * (G.n + 1) + k)) = tm s p k) ∧ sO V T G.SO G.n G.c1 G.c2 G.c3 G.uk (tv s) ∧ (X (G.jw 1) = (tj s).1 ∧ X (G.jw 2) = (tj s).2.1 ∧ vI V 4 9 G.J = (tj s).2.2 ∧ (tj s).1 < (tj s).2.1 ∧ (tj s).2.1 < 4294967296 ^ 6) ∧ X G.t1 = 1 ∧ tO V G.Y G.ba (tt s)
def rC (Z : Hz) (G : Ga) (V : Hv) (s : St) : Prop := ∃ T X, rCT Z G V T X s
/-- only what belongs to the class's objects has changed -/
def gC (Z : Hz) (G : Ga) (V V' : Hv) : Prop := eG (fun ci _ _ => ci ≠ 9) (fun a => pA0 Z a ∨ a = G.ra ∨ a = G.co ∨ a = G.oa ∨ a = G.c1 ∨ a = G.c2 ∨ a = G.c3 ∨ a = G.ba) V V'
/-- what a call leaves -/
def oP (Z : Hz) (G : Ga) (V : Hv) (x : St × Int32) : Int32 → Hs → Prop := fun r S' => r = x.2 ∧ ∃ V', S' = (Z, V') ∧ gC Z G V V' ∧ rC Z G V' x.1
theorem oP.after {Z : Hz} {G : Ga} {V V1 : Hv} {x : St × Int32} {r : Int32} {S' : Hs} (hg : gC Z G V V1) (h : oP Z G V1 x r S') : oP Z G V x r S' := by
  obtain ⟨h1, V', h2, h3, h4⟩ := h
  exact ⟨h1, V', h2, hg.trans h3, h4⟩
theorem oP.same {Z : Hz} {G : Ga} {V : Hv} {T : Nat → Fr} {X : Nat → Nat} {s : St} {y : Int32} (h : rCT Z G V T X s) : oP Z G V (s, y) y (Z, V) := ⟨rfl, V, rfl, eG.refl V, T, X, h⟩
theorem gC.ofF {Z : Hz} {G : Ga} {V V' : Hv} (h : eF Z V V') : gC Z G V V' := h.g.mono (fun ci k a z => by rcases z with z | z <;> (rw [z.1]; decide)) (fun a z => Or.inl z)
theorem gC.setI {Z : Hz} {G : Ga} (V : Hv) {ci k a : Nat} (x : Int32) (h : ci ≠ 9) : gC Z G V (sI V ci k a x) := eG.setI V x h
/-- the fields and arrays that the objects' state is read from -/
def vEq (G : Ga) (V V' : Hv) : Prop := (∀ k, vI V' 8 k G.x = vI V 8 k G.x) ∧ vI V' 2 0 G.E = vI V 2 0 G.E ∧ vI V' 1 0 G.D = vI V 1 0 G.D ∧ (∀ k, vI V' 5 k G.SO = vI V 5 k G.SO) ∧ (∀ k, vI V' 4 k G.J = vI V 4 k G.J) ∧ (∀ k, vI V' 6 k G.Y = vI V 6 k G.Y) ∧ vA V' G.c1 = vA V G.c1 ∧ vA V' G.c2 = vA V G.c2 ∧ vA V' G.c3 = vA V G.c3 ∧ vA V' G.ba = vA V G.ba
/-- the Fractions of s stay -/
def tEq (G : Ga) (s : St) (T T' : Nat → Fr) : Prop := (∀ i, i < tc s → T' (G.nu i) = T (G.nu i)) ∧ (∀ k, k < G.n * (G.n + 1) → T' (G.ee k) = T (G.ee k)) ∧ ∀ j, j < G.n → T' (G.uk j) = T (G.uk j)
def xEq (G : Ga) (X X' : Nat → Nat) : Prop := X' (G.jw 1) = X (G.jw 1) ∧ X' (G.jw 2) = X (G.jw 2) ∧ X' G.t1 = X G.t1
theorem tEq.refl (G : Ga) (s : St) (T : Nat → Fr) : tEq G s T T := ⟨fun _ _ => rfl, fun _ _ => rfl, fun _ _ => rfl⟩
theorem xEq.refl (G : Ga) (X : Nat → Nat) : xEq G X X := ⟨rfl, rfl, rfl⟩
theorem rCT.view {Z : Hz} {G : Ga} {V V' : Hv} {T T' : Nat → Fr} {X X' : Nat → Nat} {s : St} (h : rCT Z G V T X s) (hK : KS Z G.uo G.vo G.w V' T' X') (hv : vEq G V V') (ht : tEq G s T T') (hx : xEq G X X') : rCT Z G V' T' X' s := by
  obtain ⟨-, ⟨i1, i2, i3, i4, i5, i6⟩, hn, hm, ⟨s1, s2, s3⟩, ⟨j1, j2, j3, j4, j5⟩, hy, y1, y2, y3⟩ := h
  obtain ⟨v1, v2, v3, v4, v5, v6, v7, v8, v9, v10⟩ := hv
  refine ⟨hK, ⟨(v1 0).trans i1, (v1 9).trans i2, i3, (v1 10).trans i4, v2.trans i5, v3.trans i6⟩, fun i hi => (ht.1 i hi).trans (hn i hi), fun p k hp hk => (ht.2.1 _ (idx_lt hp hk)).trans (hm p k hp hk), ⟨(v4 0).trans s1, (v4 8).trans s2, fun x hx9 => ?_⟩, ⟨hx.1.trans j1, hx.2.1.trans j2, (v5 9).trans j3, j4, j5⟩, hx.2.2.trans hy, (v6 5).trans y1, fun i hi => by rw [v10]; exact y2 i hi, y3⟩
  obtain ⟨q1, q2, q3, q4, q5⟩ := s3 x hx9
  exact ⟨(v4 9).trans q1, (v4 10).trans q2, q3, fun p hp => by rw [v7, v8, v9]; exact q4 p hp, fun hx1 j hj => (ht.2.2 j hj).trans (q5 hx1 j hj)⟩
section XR
variable {Γ : Gm} {Z : Hz} {G : Ga} {V : Hv} {T : Nat → Fr} {X : Nat → Nat} {s : St}
theorem xR.n5 (h : xR Z G) : 1 ≤ G.n ∧ G.n ≤ 5 := ⟨h.2.2.2.1.1.2.2.2.2.2.2.2.2.1, h.2.2.2.1.1.2.2.2.2.2.2.2.2.2⟩
theorem vEq.ofF {V' : Hv} (hR : xR Z G) (h : eF Z V V') : vEq G V V' := by
  have ni : ∀ {ci k a : Nat}, ci ≠ 7 → ci ≠ 3 → vI V' ci k a = vI V ci k a := fun h7 h3 => h.g.1 _ _ _ (fun z => by rcases z with z | z; exact h7 z.1; exact h3 z.1)
  obtain ⟨-, -, -, ⟨-, -, hs, -, ht⟩, -⟩ := hR
  have hc := hs.2.2.2.2.2.2
  exact ⟨fun k => ni (by decide) (by decide), ni (by decide) (by decide), ni (by decide) (by decide), fun k => ni (by decide) (by decide), fun k => ni (by decide) (by decide), fun k => ni (by decide) (by decide), h.g.2.1 _ hc.1, h.g.2.1 _ hc.2.1, h.g.2.1 _ hc.2.2.1, h.g.2.1 _ (npA10 ht.2.2.2.1)⟩
/-- a Fraction that is no part of s changes -/
theorem tEq.up {q : Nat} {y : Fr} (hR : xR Z G) (h : (tc s < 40 ∧ q = G.nu (tc s)) ∨ (3 ≤ G.fc q ∧ G.fc q ≠ 7)) (hs : tc s ≤ 40) : tEq G s T (va_up T q y) := by
  obtain ⟨-, -, -, -, ⟨⟨d1, d2, -, -, -, -, d7, -, -⟩, -, -, dn, -⟩⟩ := hR
  refine ⟨fun i hi => up_ne _ _ (fun e => ?_), fun k hk => up_ne _ _ (fun e => ?_), fun j hj => up_ne _ _ (fun e => ?_)⟩
  · rcases h with ⟨h0, h⟩ | h
    · rw [h] at e
      have := dn i (tc s) (by omega) h0 e
      omega
    · rw [← e, d1 i (by omega)] at h
      omega
  · rcases h with ⟨h0, h⟩ | h
    · have := d2 k hk
      rw [e, h, d1 _ h0] at this
      omega
    · rw [← e, d2 k hk] at h
      omega
  · rcases h with ⟨h0, h⟩ | h
    · have := d7 j hj
      rw [e, h, d1 _ h0] at this
      omega
    · rw [← e, d7 j hj] at h
      omega
theorem xR.num {i : Nat} (h : xR Z G) (hi : i < 40) : vp_in (nI i) (zn Z G.na) ∧ zA Z G.na (nI i).toNatClampNeg = some (G.nu i) ∧ zIn Z (G.nu i) 3 ∧ zIn Z G.na 13 := by
  obtain ⟨-, -, ⟨⟨a1, a2, a3⟩, -⟩, -⟩ := h
  refine ⟨by rw [a2]; exact vp_in_nI hi (by decide), ?_, (a3 i hi).2, a1⟩
  rw [nI_clamp (by omega)]
  exact (a3 i hi).1
set_option maxRecDepth 100000 in
theorem c_isFull (hR : xR Z G) (hC : rCT Z G V T X s) : zCt Γ mX9_isFull 0 0 0 0 [.ref G.x] (Z, V) (pZ (q0 Z V (full s))) := by
  refine zCt.of [some (.ref G.x)] pn_X9_isFull rfl (Nat.le_of_ble_eq_true rfl) rfl (fun κ F => ?_)
  have b0 := hR.1.1
  have h9 := hC.2.1.2.1
  have h40 := hC.2.1.2.2.1
  refine z_aload_n F dX9_isFull_0 rfl ?_
  refine z_getI F dX9_isFull_1 gi_X9_85 (by assumption) ?_
  refine z_ti h9 ?_
  refine z_bipush (v := nI 40) F dX9_isFull_4 (by decide) ?_
  refine z_icmp_lt (tgt := 13) F dX9_isFull_6 (by decide) (fun c => ?_) (fun c => ?_)
  · have h : ¬ 40 ≤ tc s := fun z => by have := (nI_ltI (by omega) (by decide)).mp c; omega
    refine z_iconst (v := nI 0) F dX9_isFull_13 (by decide) ?_
    exact z_zret F false dX9_isFull_14 rfl rfl ⟨(decide_eq_false h).symm, rfl⟩
  · have h : 40 ≤ tc s := Nat.le_of_not_lt (fun z => c ((nI_ltI (by omega) (by decide)).mpr z))
    refine z_iconst (v := nI 1) F dX9_isFull_9 (by decide) ?_
    refine z_goto (tgt := 14) F dX9_isFull_10 (by decide) ?_
    exact z_zret F true dX9_isFull_14 rfl rfl ⟨(decide_eq_true h).symm, rfl⟩
set_option maxRecDepth 100000 in
theorem c_isNumber (a : Int32) (hR : xR Z G) (hC : rCT Z G V T X s) : zCt Γ mX9_isNumber 0 0 0 0 [.ref G.x, .int a] (Z, V) (pZ (q0 Z V (isN s a))) := by
  refine zCt.of [some (.ref G.x), some (.int a)] pn_X9_isNumber rfl (Nat.le_of_ble_eq_true rfl) rfl (fun κ F => ?_)
  have b0 := hR.1.1
  have h9 := hC.2.1.2.1
  refine z_iload_n F dX9_isNumber_0 rfl ?_
  refine z_if_lt (tgt := 16) F dX9_isNumber_1 (by decide) (fun c => ?_) (fun c => ?_)
  · refine z_iconst (v := nI 0) F dX9_isNumber_16 (by decide) ?_
    exact z_zret F false dX9_isNumber_17 rfl rfl ⟨(inI_f (Or.inl c)).symm, rfl⟩
  · refine z_iload_n F dX9_isNumber_4 rfl ?_
    refine z_aload_n F dX9_isNumber_5 rfl ?_
    refine z_getI F dX9_isNumber_6 gi_X9_85 (by assumption) ?_
    refine z_ti h9 ?_
    refine z_icmp_ge (tgt := 16) F dX9_isNumber_9 (by decide) (fun c2 => ?_) (fun c2 => ?_)
    · refine z_iconst (v := nI 0) F dX9_isNumber_16 (by decide) ?_
      exact z_zret F false dX9_isNumber_17 rfl rfl ⟨(inI_f (Or.inr c2)).symm, rfl⟩
    · refine z_iconst (v := nI 1) F dX9_isNumber_12 (by decide) ?_
      refine z_goto (tgt := 17) F dX9_isNumber_13 (by decide) ?_
      exact z_zret F true dX9_isNumber_17 rfl rfl ⟨(inI_of c c2).symm, rfl⟩
theorem leI_n1 {x : Int32} {n : Nat} (hn : n < 1000) : nI n < x ↔ nI (n + 1) ≤ x := by
  rw [Int32.lt_iff_toInt_lt, Int32.le_iff_toInt_le, nI_toInt (by omega), nI_toInt (by omega)]
  omega
set_option maxRecDepth 100000 in
theorem c_isEntry (i j : Int32) (hR : xR Z G) (hC : rCT Z G V T X s) : zCt Γ mX9_isEntry 0 0 0 0 [.ref G.x, .int i, .int j] (Z, V) (pZ (q0 Z V (isE G.n i j))) := by
  refine zCt.of [some (.ref G.x), some (.int i), some (.int j)] pn_X9_isEntry rfl (Nat.le_of_ble_eq_true rfl) rfl (fun κ F => ?_)
  have b0 := hR.1.1
  have h0 := hC.2.1.1
  have hn := hR.n5
  have no : isE G.n i j = false → zX Γ κ (Z, V) 0 0 (zQ Γ κ (pZ (q0 Z V (isE G.n i j))) 0 0) 28 [some (.ref G.x), some (.int i), some (.int j)] [] := by
    intro h
    refine z_iconst (v := nI 0) F dX9_isEntry_28 (by decide) ?_
    exact z_zret F false dX9_isEntry_29 rfl rfl ⟨h.symm, rfl⟩
  refine z_iload_n F dX9_isEntry_0 rfl ?_
  refine z_if_lt (tgt := 28) F dX9_isEntry_1 (by decide) (fun c => ?_) (fun c => ?_)
  · exact no (by unfold isE; rw [inI_f (Or.inl c)]; rfl)
  · refine z_iload_n F dX9_isEntry_4 rfl ?_
    refine z_aload_n F dX9_isEntry_5 rfl ?_
    refine z_getI F dX9_isEntry_6 gi_X9_21 (by assumption) ?_
    refine z_ti h0 ?_
    refine z_icmp_ge (tgt := 28) F dX9_isEntry_9 (by decide) (fun c2 => ?_) (fun c2 => ?_)
    · exact no (by unfold isE; rw [inI_f (Or.inr c2)]; rfl)
    · refine z_iload_n F dX9_isEntry_12 rfl ?_
      refine z_if_lt (tgt := 28) F dX9_isEntry_13 (by decide) (fun c3 => ?_) (fun c3 => ?_)
      · exact no (by unfold isE; rw [inI_f (x := j) (Or.inl c3), Bool.and_false])
      · refine z_iload_n F dX9_isEntry_16 rfl ?_
        refine z_aload_n F dX9_isEntry_17 rfl ?_
        refine z_getI F dX9_isEntry_18 gi_X9_21 (by assumption) ?_
        refine z_ti h0 ?_
        refine z_icmp_gt (tgt := 28) F dX9_isEntry_21 (by decide) (fun c4 => ?_) (fun c4 => ?_)
        · exact no (by unfold isE; rw [inI_f (x := j) (Or.inr ((leI_n1 (by omega)).mp c4)), Bool.and_false])
        · have h : isE G.n i j = true := by unfold isE; rw [inI_of c c2, inI_of c3 (fun z => c4 ((leI_n1 (by omega)).mpr z))]; rfl
          refine z_iconst (v := nI 1) F dX9_isEntry_24 (by decide) ?_
          refine z_goto (tgt := 29) F dX9_isEntry_25 (by decide) ?_
          exact z_zret F true dX9_isEntry_29 rfl rfl ⟨h.symm, rfl⟩
set_option maxRecDepth 100000 in
theorem c_entryAt {i j : Nat} (hR : xR Z G) (hC : rCT Z G V T X s) (hi : i < G.n) (hj : j ≤ G.n) : zCt Γ mX9_entryAt 0 0 0 0 [.ref G.x, .int (nI i), .int (nI j)] (Z, V) (pR (q0 Z V (G.ee (i * (G.n + 1) + j)))) := by
  refine zCt.of [some (.ref G.x), some (.int (nI i)), some (.int (nI j))] pn_X9_entryAt rfl (Nat.le_of_ble_eq_true rfl) rfl (fun κ F => ?_)
  have b0 := hR.1.1
  have b3 := hR.1.2.2.2.1
  have h0 := hC.2.1.1
  have hn := hR.n5
  obtain ⟨r1, r2, r3⟩ := hR.2.2.1.2
  have h30 := nn30 hn.2
  have hlt := idx_lt hi hj
  have i2 : vp_in (nI (i * (G.n + 1) + j)) (zn Z G.ea) := by rw [r2]; exact vp_in_nI hlt (by omega)
  have e2 : zA Z G.ea (nI (i * (G.n + 1) + j)).toNatClampNeg = some (G.ee (i * (G.n + 1) + j)) := by rw [nI_clamp (by omega)]; exact (r3 _ hlt).1
  refine z_aload_n F dX9_entryAt_0 rfl ?_
  refine z_getR F dX9_entryAt_1 gr_X9_39 (by assumption) (by assumption) ?_
  refine z_iload_n F dX9_entryAt_4 rfl ?_
  refine z_aload_n F dX9_entryAt_5 rfl ?_
  refine z_getI F dX9_entryAt_6 gi_X9_21 (by assumption) ?_
  refine z_ti h0 ?_
  refine z_iconst (v := nI 1) F dX9_entryAt_9 (by decide) ?_
  refine z_iadd F dX9_entryAt_10 ?_
  refine z_ti (nI_add _ 1) ?_
  refine z_imul F dX9_entryAt_11 ?_
  refine z_ti (pk_mul _ _) ?_
  refine z_iload_n F dX9_entryAt_12 rfl ?_
  refine z_iadd F dX9_entryAt_13 ?_
  refine z_ti (nI_add _ _) ?_
  refine z_aald F dX9_entryAt_14 (by assumption) i2 e2 ?_
  exact z_aret F dX9_entryAt_15 rfl (Or.inl ⟨_, rfl⟩) ⟨rfl, rfl⟩
theorem KS.setI8 {k : Nat} {x : Int32} {a : Nat} (hK : KS Z G.uo G.vo G.w V T X) : KS Z G.uo G.vo G.w (sI V 8 k a x) T X := by
  have h : eG (fun ci _ _ => ci = 8) (fun _ => False) V (sI V 8 k a x) := eG.setI V x rfl
  refine hK.keep h (fun ci k a z h9 => ?_) (fun a z => z.elim)
  rcases h9 with h9 | h9 <;> (rw [z] at h9; exact absurd h9.1 (by decide))
set_option maxRecDepth 100000 in
theorem c_grew (hR : xR Z G) (hC : rCT Z G V T X s) : zCt Γ mX9_grew 0 0 0 0 [.ref G.x] (Z, V) (pI (oP Z G V (grewF s))) := by
  refine zCt.of [some (.ref G.x)] pn_X9_grew rfl (Nat.le_of_ble_eq_true rfl) rfl (fun κ F => ?_)
  have b0 := hR.1.1
  obtain ⟨hK, ⟨i1, i2, i3, i4, i5, i6⟩, hn, hm, hs, hj, hy⟩ := hC
  have fin : rC Z G (sI V 8 10 G.x (tg s + 1)) (grewF s).1 := by
    refine ⟨T, X, hK.setI8, ⟨?_, ?_, i3, vI_sI_self _ _ _ _ _, i5, i6⟩, hn, hm, hs, hj, hy⟩
    · rw [vI_sI_ne _ _ (fun z => absurd z.2.1 (by decide))]; exact i1
    · rw [vI_sI_ne _ _ (fun z => absurd z.2.1 (by decide))]; exact i2
  refine z_aload_n F dX9_grew_0 rfl ?_
  refine z_dup F dX9_grew_1 rfl ?_
  refine z_getI F dX9_grew_2 gi_X9_270 (by assumption) ?_
  refine z_ti i4 ?_
  refine z_iconst (v := nI 1) F dX9_grew_5 (by decide) ?_
  refine z_iadd F dX9_grew_6 ?_
  refine z_putI F dX9_grew_7 pi_X9_270 (zf_8_10 _) (by assumption) ?_
  refine z_bipush (v := (-3)) F dX9_grew_10 (by decide) ?_
  exact z_iret F dX9_grew_12 rfl ⟨rfl, _, rfl, gC.setI V _ (by decide), fin⟩
set_option maxRecDepth 100000 in
theorem c_keep {b : Bool} (hR : xR Z G) (hC : rCT Z G V T X s) (hb : b = true → tc s < 40) : zCt Γ mX9_keep 1 20 0 0 [.ref G.x, .int (zb b)] (Z, V) (pI (oP Z G V (if b = true then keepF s (T (G.nu (tc s))) else grewF s))) := by
  refine zCt.of [some (.ref G.x), some (.int (zb b))] pn_X9_keep rfl (Nat.le_of_ble_eq_true rfl) rfl (fun κ F => ?_)
  have b0 := hR.1.1
  refine z_iload_n F dX9_keep_0 rfl ?_
  refine z_if_ne (tgt := 9) F dX9_keep_1 (by decide) (fun c => ?_) (fun c => ?_)
  · have h := zb_t c
    have h40 := hb h
    rw [if_pos h]
    obtain ⟨hK, ⟨i1, i2, i3, i4, i5, i6⟩, hn, hm, hs, hj, hy⟩ := hC
    have fin : rC Z G (sI V 8 9 G.x (nI (tc s + 1))) (keepF s (T (G.nu (tc s)))).1 := by
      refine ⟨T, X, hK.setI8, ⟨?_, vI_sI_self _ _ _ _ _, h40, ?_, i5, i6⟩, fun i hi => ?_, hm, hs, hj, hy⟩
      · rw [vI_sI_ne _ _ (fun z => absurd z.2.1 (by decide))]; exact i1
      · rw [vI_sI_ne _ _ (fun z => absurd z.2.1 (by decide))]; exact i4
      · show T (G.nu i) = va_up (tn s) (tc s) (T (G.nu (tc s))) i
        have hi' : i < tc s + 1 := hi
        by_cases e : i = tc s
        · rw [e, up_self]
        · rw [up_ne _ _ e]; exact hn i (by omega)
    refine z_aload_n F dX9_keep_9 rfl ?_
    refine z_dup F dX9_keep_10 rfl ?_
    refine z_getI F dX9_keep_11 gi_X9_85 (by assumption) ?_
    refine z_ti i2 ?_
    refine z_iconst (v := nI 1) F dX9_keep_14 (by decide) ?_
    refine z_iadd F dX9_keep_15 ?_
    refine z_ti (nI_add _ 1) ?_
    refine z_putI F dX9_keep_16 pi_X9_85 (zf_8_9 _) (by assumption) ?_
    refine z_aload_n F dX9_keep_19 rfl ?_
    refine z_getI F dX9_keep_20 gi_X9_85 (by assumption) ?_
    refine z_ti (vI_sI_self _ _ _ _ _) ?_
    refine z_iconst (v := nI 1) F dX9_keep_23 (by decide) ?_
    refine z_isub F dX9_keep_24 ?_
    refine z_ti (pk_sub (by omega)) ?_
    exact z_iret F dX9_keep_25 rfl ⟨by rfl, _, rfl, gC.setI V _ (by decide), fin⟩
  · have h := zb_f c
    rw [if_neg h]
    refine z_aload_n F dX9_keep_4 rfl ?_
    refine z_cVi F (c_grew hR hC) dX9_keep_5 ml_X9_181 ok_X9_grew b0 (by decide) rfl rfl rfl (Nat.le_of_ble_eq_true rfl) (by decide) (by decide) (fun r S' hr => ?_)
    exact z_iret F dX9_keep_8 rfl hr
set_option maxRecDepth 100000 in
theorem c_keepCopy {q : Nat} (hR : xR Z G) (hC : rCT Z G V T X s) (hq : zIn Z q 3) : zCt Γ mX9_keepCopy 4 103 0 0 [.ref G.x, .ref q] (Z, V) (pI (oP Z G V (keepC s (T q)))) := by
  refine zCt.of [some (.ref G.x), some (.ref q)] pn_X9_keepCopy rfl (Nat.le_of_ble_eq_true rfl) rfl (fun κ F => ?_)
  obtain ⟨b0, b1, b2, -⟩ := hR.1
  obtain ⟨hJ, hS, hA⟩ := hR.2.1
  refine z_aload_n F dX9_keepCopy_0 rfl ?_
  refine z_cVz F (c_isFull hR hC) dX9_keepCopy_1 ml_X9_81 ok_X9_isFull b0 (by decide) rfl rfl rfl (Nat.le_of_ble_eq_true rfl) (by decide) (by decide) (fun r S' hr => ?_)
  obtain ⟨rfl, rfl⟩ := hr
  unfold keepC
  refine z_if_eq (tgt := 10) F dX9_keepCopy_4 (by decide) (fun c => ?_) (fun c => ?_)
  · have h := zb_f c
    have h40 : tc s < 40 := Nat.lt_of_not_le (fun z => h (decide_eq_true z))
    rw [if_neg h]
    obtain ⟨n1, n2, n3, n4⟩ := hR.num h40
    have i2 := hC.2.1.2.1
    refine z_aload_n F dX9_keepCopy_10 rfl ?_
    refine z_getR F dX9_keepCopy_11 gr_X9_35 (by assumption) (by assumption) ?_
    refine z_aload_n F dX9_keepCopy_14 rfl ?_
    refine z_getI F dX9_keepCopy_15 gi_X9_85 (by assumption) ?_
    refine z_ti i2 ?_
    refine z_aald F dX9_keepCopy_18 (by assumption) n1 n2 ?_
    refine z_aload_n F dX9_keepCopy_19 rfl ?_
    refine z_cVv F (K_copy hC.1 hJ hS n3 hq) dX9_keepCopy_20 ml_X9_162 ok_X3_copy n3 (by decide) rfl rfl rfl (Nat.le_of_ble_eq_true rfl) (by decide) (by decide) (fun S' hS' => ?_)
    obtain ⟨V1, rfl, hK1, hF1⟩ := hS'
    have hC1 := hC.view hK1 (vEq.ofF hR hF1) (tEq.up hR (Or.inl ⟨h40, rfl⟩) (by omega)) (xEq.refl G X)
    refine z_aload_n F dX9_keepCopy_23 rfl ?_
    refine z_iconst (v := nI 1) F dX9_keepCopy_24 (by decide) ?_
    refine z_cVi F (c_keep (b := true) hR hC1 (fun _ => h40)) dX9_keepCopy_25 ml_X9_92 ok_X9_keep b0 (by decide) rfl rfl rfl (Nat.le_of_ble_eq_true rfl) (by decide) (by decide) (fun r S' hr => ?_)
    rw [if_pos rfl, up_self] at hr
    exact z_iret F dX9_keepCopy_28 rfl (oP.after (gC.ofF hF1) hr)
  · have h := zb_t c
    rw [if_pos h]
    refine z_bipush (v := (-4)) F dX9_keepCopy_7 (by decide) ?_
    exact z_iret F dX9_keepCopy_9 rfl (oP.same hC)
end XR
