/-! ===== a pool that grows: what is finished in it, who holds what ===== -/
abbrev Ow : Type := Nat → Option (Nat × Nat)
/-- what a cell's place k refers to -/
def rf (Z : Hz) (a k : Nat) : Option Nat := if zK Z a = 13 then zA Z a k else zR Z (zK Z a) k a
/-- references lead into the pool; but for Arithmetics each cell is held in one place -/
def WF (Z : Hz) (ow : Ow) : Prop := ∀ a k q, a ∈ zL Z → rf Z a k = some q → q ∈ zL Z ∧ (zK Z q = 0 ∨ ow q = some (a, k))
def fin3 (Z : Hz) (V : Hv) (val : Nat → Nat) (a : Nat) : Prop := ∃ u v, zR Z 3 0 a = some u ∧ zR Z 3 1 a = some v ∧ zIn Z u 7 ∧ zIn Z v 7 ∧ val u = 0 ∧ val v = 1 ∧ vI V 3 2 a = 0
def fin2 (Z : Hz) (V : Hv) (a : Nat) : Prop := ∃ n A wk ra co fa pd, (zR Z 2 1 a = some A ∧ zR Z 2 2 a = some wk ∧ zR Z 2 3 a = some ra ∧ zR Z 2 4 a = some co ∧ zR Z 2 5 a = some fa ∧ zR Z 2 6 a = some pd) ∧ (zIn Z A 0 ∧ zIn Z wk 13 ∧ zn Z wk = n * (n + 1) ∧ zIn Z ra 11 ∧ zn Z ra = n ∧ zIn Z co 11 ∧ zn Z co = n ∧ zIn Z fa 3 ∧ zIn Z pd 3) ∧ vI V 2 0 a = nI n ∧ 1 ≤ n ∧ n ≤ 5
def fin1 (Z : Hz) (V : Hv) (a : Nat) : Prop := ∃ n A oa pr, (zR Z 1 1 a = some A ∧ zR Z 1 2 a = some oa ∧ zR Z 1 3 a = some pr) ∧ (zIn Z A 0 ∧ zIn Z oa 11 ∧ zn Z oa = n ∧ zIn Z pr 3) ∧ vI V 1 0 a = nI n ∧ 1 ≤ n ∧ n ≤ 5
def fin5 (Z : Hz) (V : Hv) (a : Nat) : Prop := ∃ n A c1 c2 c3 ua pr su, (zR Z 5 1 a = some A ∧ zR Z 5 2 a = some c1 ∧ zR Z 5 3 a = some c2 ∧ zR Z 5 4 a = some c3 ∧ zR Z 5 5 a = some ua ∧ zR Z 5 6 a = some pr ∧ zR Z 5 7 a = some su) ∧ (zIn Z A 0 ∧ zIn Z c1 11 ∧ zn Z c1 = n ∧ zIn Z c2 11 ∧ zn Z c2 = n ∧ zIn Z c3 11 ∧ zn Z c3 = n ∧ zIn Z ua 13 ∧ zn Z ua = n ∧ zIn Z pr 3 ∧ zIn Z su 3) ∧ vI V 5 0 a = nI n ∧ vI V 5 8 a = 0 ∧ 1 ≤ n ∧ n ≤ 5
def fin4 (Z : Hz) (V : Hv) (val : Nat → Nat) (a : Nat) : Prop := ∃ A, zR Z 4 0 a = some A ∧ zIn Z A 0 ∧ (∀ k, 1 ≤ k → k ≤ 8 → ∃ q, zR Z 4 k a = some q ∧ zIn Z q 7 ∧ val q = if k = 2 then 1 else 0) ∧ vI V 4 9 a = 0
def fin6 (Z : Hz) (V : Hv) (val : Nat → Nat) (a : Nat) : Prop := ∃ A ba, zR Z 6 0 a = some A ∧ zIn Z A 0 ∧ (∀ k, 1 ≤ k → k ≤ 3 → ∃ q, zR Z 6 k a = some q ∧ zIn Z q 7 ∧ val q = if k = 1 then 1 else 0) ∧ zR Z 6 4 a = some ba ∧ zIn Z ba 10 ∧ zn Z ba = 90 ∧ vI V 6 5 a = 0
/-- the cell a is finished, by its kind -/
def FIN (Z : Hz) (V : Hv) (val : Nat → Nat) (a : Nat) : Prop := (zK Z a = 7 → iW Z a) ∧ (zK Z a = 3 → fin3 Z V val a) ∧ (zK Z a = 0 → ∀ k, k < 12 → ∃ q, zR Z 0 k a = some q ∧ zIn Z q 7) ∧ (zK Z a = 13 → ∀ i, i < zn Z a → ∃ q, zA Z a i = some q ∧ zIn Z q 3) ∧ (zK Z a = 2 → fin2 Z V a) ∧ (zK Z a = 1 → fin1 Z V a) ∧ (zK Z a = 5 → fin5 Z V a) ∧ (zK Z a = 4 → fin4 Z V val a) ∧ (zK Z a = 6 → fin6 Z V val a)
/-- from S to S' the pool has grown; what was there is as it was, but for the cell o; what is new is finished -/
def Gr (S S' : Hs) (o : Nat) (ow ow' : Ow) (val val' : Nat → Nat) : Prop :=
  (∀ a, a ∈ zL S.1 → a ∈ zL S'.1 ∧ zK S'.1 a = zK S.1 a ∧ zn S'.1 a = zn S.1 a ∧ ow' a = ow a ∧ val' a = val a ∧ (a ≠ o → (∀ c k, zR S'.1 c k a = zR S.1 c k a) ∧ zA S'.1 a = zA S.1 a ∧ (∀ c k, vI S'.2 c k a = vI S.2 c k a) ∧ vA S'.2 a = vA S.2 a ∧ vJ S'.2 a = vJ S.2 a))
  ∧ ∀ a, a ∈ zL S'.1 → a ∉ zL S.1 → FIN S'.1 S'.2 val' a
def CI (S : Hs) (ow : Ow) (val : Nat → Nat) : Prop := WF S.1 ow ∧ CV S.1 S.2 val ∧ ∀ b a k, b ∈ zL S.1 → ow b = some (a, k) → a ∈ zL S.1
section BUILD
variable {S S1 S2 : Hs} {o o1 a q c k ci : Nat} {ow ow1 ow2 : Ow} {val val1 val2 : Nat → Nat} {x : Int32}
theorem Gr.i (h : Gr S S1 o ow ow1 val val1) (hq : zIn S.1 q c) : zIn S1.1 q c := ⟨(h.1 q hq.1).1, (h.1 q hq.1).2.1.trans hq.2⟩
theorem Gr.v (h : Gr S S1 o ow ow1 val val1) (hq : zIn S.1 q c) : val1 q = val q := (h.1 q hq.1).2.2.2.2.1
theorem Gr.n (h : Gr S S1 o ow ow1 val val1) (hq : zIn S.1 q c) : zn S1.1 q = zn S.1 q := (h.1 q hq.1).2.2.1
theorem Gr.r (h : Gr S S1 o ow ow1 val val1) (ha : a ∈ zL S.1) (hne : a ≠ o) (c k : Nat) : zR S1.1 c k a = zR S.1 c k a := ((h.1 a ha).2.2.2.2.2 hne).1 c k
theorem Gr.vi (h : Gr S S1 o ow ow1 val val1) (ha : a ∈ zL S.1) (hne : a ≠ o) (c k : Nat) : vI S1.2 c k a = vI S.2 c k a := ((h.1 a ha).2.2.2.2.2 hne).2.2.1 c k
theorem FIN.gr (hf : FIN S.1 S.2 val a) (ha : a ∈ zL S.1) (hne : a ≠ o) (h : Gr S S1 o ow ow1 val val1) : FIN S1.1 S1.2 val1 a := by
  obtain ⟨g1, g2, g3, -, -, g6⟩ := h.1 a ha
  obtain ⟨r1, r2, r3, r4, r5⟩ := g6 hne
  obtain ⟨f7, f3, f0, f13, f2, f1, f5, f4, f6⟩ := hf
  refine ⟨fun e => ?_, fun e => ?_, fun e k hk => ?_, fun e i hi => ?_, fun e => ?_, fun e => ?_, fun e => ?_, fun e => ?_, fun e => ?_⟩
  · rw [g2] at e
    obtain ⟨g, w1, w2, w3, w4⟩ := f7 e
    exact ⟨g, h.i w1, by rw [r1]; exact w2, h.i w3, by rw [h.n w3]; exact w4⟩
  · rw [g2] at e
    obtain ⟨u, v, e1, e2, i1, i2, v1, v2, v3⟩ := f3 e
    exact ⟨u, v, by rw [r1]; exact e1, by rw [r1]; exact e2, h.i i1, h.i i2, by rw [h.v i1]; exact v1, by rw [h.v i2]; exact v2, by rw [r3]; exact v3⟩
  · rw [g2] at e
    obtain ⟨q, e1, e2⟩ := f0 e k hk
    exact ⟨q, by rw [r1]; exact e1, h.i e2⟩
  · rw [g2] at e
    rw [g3] at hi
    obtain ⟨q, e1, e2⟩ := f13 e i hi
    exact ⟨q, by rw [r2]; exact e1, h.i e2⟩
  · rw [g2] at e
    obtain ⟨n, A, wk, ra, co, fa, pd, ⟨e1, e2, e3, e4, e5, e6⟩, ⟨i1, i2, i3, i4, i5, i6, i7, i8, i9⟩, vn, n1, n5⟩ := f2 e
    exact ⟨n, A, wk, ra, co, fa, pd, ⟨by rw [r1]; exact e1, by rw [r1]; exact e2, by rw [r1]; exact e3, by rw [r1]; exact e4, by rw [r1]; exact e5, by rw [r1]; exact e6⟩, ⟨h.i i1, h.i i2, by rw [h.n i2]; exact i3, h.i i4, by rw [h.n i4]; exact i5, h.i i6, by rw [h.n i6]; exact i7, h.i i8, h.i i9⟩, by rw [r3]; exact vn, n1, n5⟩
  · rw [g2] at e
    obtain ⟨n, A, oa, pr, ⟨e1, e2, e3⟩, ⟨i1, i2, i3, i4⟩, vn, n1, n5⟩ := f1 e
    exact ⟨n, A, oa, pr, ⟨by rw [r1]; exact e1, by rw [r1]; exact e2, by rw [r1]; exact e3⟩, ⟨h.i i1, h.i i2, by rw [h.n i2]; exact i3, h.i i4⟩, by rw [r3]; exact vn, n1, n5⟩
  · rw [g2] at e
    obtain ⟨n, A, c1, c2, c3, ua, pr, su, ⟨e1, e2, e3, e4, e5, e6, e7⟩, ⟨i1, i2, i3, i4, i5, i6, i7, i8, i9, i10, i11⟩, vn, v8, n1, n5⟩ := f5 e
    exact ⟨n, A, c1, c2, c3, ua, pr, su, ⟨by rw [r1]; exact e1, by rw [r1]; exact e2, by rw [r1]; exact e3, by rw [r1]; exact e4, by rw [r1]; exact e5, by rw [r1]; exact e6, by rw [r1]; exact e7⟩, ⟨h.i i1, h.i i2, by rw [h.n i2]; exact i3, h.i i4, by rw [h.n i4]; exact i5, h.i i6, by rw [h.n i6]; exact i7, h.i i8, by rw [h.n i8]; exact i9, h.i i10, h.i i11⟩, by rw [r3]; exact vn, by rw [r3]; exact v8, n1, n5⟩
  · rw [g2] at e
    obtain ⟨A, e0, i0, hk, v9⟩ := f4 e
    refine ⟨A, by rw [r1]; exact e0, h.i i0, fun k h1 h2 => ?_, by rw [r3]; exact v9⟩
    obtain ⟨q, e1, i1, v1⟩ := hk k h1 h2
    exact ⟨q, by rw [r1]; exact e1, h.i i1, by rw [h.v i1]; exact v1⟩
  · rw [g2] at e
    obtain ⟨A, ba, e0, i0, hk, e4, i4, n4, v5⟩ := f6 e
    refine ⟨A, ba, by rw [r1]; exact e0, h.i i0, fun k h1 h2 => ?_, by rw [r1]; exact e4, h.i i4, by rw [h.n i4]; exact n4, by rw [r3]; exact v5⟩
    obtain ⟨q, e1, i1, v1⟩ := hk k h1 h2
    exact ⟨q, by rw [r1]; exact e1, h.i i1, by rw [h.v i1]; exact v1⟩
theorem Gr.refl (S : Hs) (o : Nat) (ow : Ow) (val : Nat → Nat) : Gr S S o ow ow val val := ⟨fun a ha => ⟨ha, rfl, rfl, rfl, rfl, fun _ => ⟨fun _ _ => rfl, rfl, fun _ _ => rfl, rfl, rfl⟩⟩, fun a h1 h2 => absurd h1 h2⟩
theorem Gr.trans (h1 : Gr S S1 o ow ow1 val val1) (h2 : Gr S1 S2 o1 ow1 ow2 val1 val2) (ho : o1 = o ∨ o1 ∉ zL S.1) (hf : o1 ∈ zL S1.1 → o1 ∉ zL S.1 → FIN S2.1 S2.2 val2 o1) : Gr S S2 o ow ow2 val val2 := by
  refine ⟨fun a ha => ?_, fun a h3 h4 => ?_⟩
  · obtain ⟨a1, a2, a3, a4, a5, a6⟩ := h1.1 a ha
    obtain ⟨b1, b2, b3, b4, b5, b6⟩ := h2.1 a a1
    refine ⟨b1, b2.trans a2, b3.trans a3, b4.trans a4, b5.trans a5, fun hne => ?_⟩
    obtain ⟨c1, c2, c3, c4, c5⟩ := a6 hne
    obtain ⟨d1, d2, d3, d4, d5⟩ := b6 (fun e => by rcases ho with z | z; exact hne (e.trans z); exact z (e ▸ ha))
    exact ⟨fun c k => (d1 c k).trans (c1 c k), d2.trans c2, fun c k => (d3 c k).trans (c3 c k), d4.trans c4, d5.trans c5⟩
  · by_cases h5 : a ∈ zL S1.1
    · by_cases e : a = o1
      · subst e; exact hf h5 h4
      · exact (h1.2 a h5 h4).gr h5 e h2
    · exact h2.2 a h3 h5
/-- the limbs of a Whole are its own -/
theorem WF.inj {Z : Hz} (h : WF Z ow) : wInj Z := fun o o' g w w' => by
  have e1 : rf Z o 0 = some g := by unfold rf; rw [w.1.2]; exact w.2.1
  have e2 : rf Z o' 0 = some g := by unfold rf; rw [w'.1.2]; exact w'.2.1
  have k0 : zK Z g ≠ 0 := by rw [w.2.2.1.2]; decide
  have h1 := (h o 0 g w.1.1 e1).2.resolve_left k0
  have h2 := (h o' 0 g w'.1.1 e2).2.resolve_left k0
  have := h1.symm.trans h2
  injection this with z
  injection z
/-- a cell that no place holds is put into the place k of o -/
theorem CI.put (h : CI S ow val) (ho : zIn S.1 o ci) (h13 : ci < 10) (h7 : ci ≠ 7) (hq : q ∈ zL S.1) (hn : ow q = none) : CI (sZ S.1 ci k o q, S.2) (va_up ow q (some (o, k))) val := by
  refine ⟨fun a j r ha hr => ?_, fun x g w => h.2.1 x g ?_, fun b a j hb hw => ?_⟩
  · have e13 : zK S.1 o ≠ 13 := by rw [ho.2]; omega
    by_cases e : a = o ∧ j = k
    · obtain ⟨rfl, rfl⟩ := e
      have : rf (sZ S.1 ci j a q) a j = some q := by
        unfold rf
        rw [show zK (sZ S.1 ci j a q) a = zK S.1 a from rfl, if_neg e13, ho.2]
        simp [sZ, zR]
      rw [this] at hr
      injection hr with hr
      subst hr
      exact ⟨hq, Or.inr (up_self _ _ _)⟩
    · have hr' : rf S.1 a j = some r := by
        unfold rf at hr ⊢
        rw [show zK (sZ S.1 ci k o q) a = zK S.1 a from rfl] at hr
        by_cases e3 : zK S.1 a = 13
        · rw [if_pos e3] at hr ⊢; exact hr
        · rw [if_neg e3] at hr ⊢
          have : zR (sZ S.1 ci k o q) (zK S.1 a) j a = zR S.1 (zK S.1 a) j a := by
            simp only [sZ, zR]
            rw [if_neg (fun z => e ⟨z.2.2, z.2.1⟩)]
          rw [this] at hr; exact hr
      obtain ⟨m1, m2⟩ := h.1 a j r ha hr'
      refine ⟨m1, ?_⟩
      rcases m2 with m2 | m2
      · exact Or.inl m2
      · right
        rw [up_ne _ _ (fun e => by rw [e, hn] at m2; cases m2)]
        exact m2
  · obtain ⟨w1, w2, w3, w4⟩ := w
    refine ⟨w1, ?_, w3, w4⟩
    have : zR (sZ S.1 ci k o q) 7 0 x = zR S.1 7 0 x := by
      simp only [sZ, zR]
      rw [if_neg (fun z => h7 z.1.symm)]
    rw [this] at w2
    exact w2
  · by_cases e : b = q
    · rw [e, up_self] at hw
      injection hw with hw
      injection hw with hw1
      exact hw1 ▸ ho.1
    · rw [up_ne _ _ e] at hw
      exact h.2.2 b a j hb hw
/-- an Arithmetic is put there -/
theorem CI.putA (h : CI S ow val) (ho : zIn S.1 o ci) (h13 : ci < 10) (h7 : ci ≠ 7) (hq : zIn S.1 q 0) : CI (sZ S.1 ci k o q, S.2) ow val := by
  refine ⟨fun a j r ha hr => ?_, fun x g w => h.2.1 x g ?_, h.2.2⟩
  · have e13 : zK S.1 o ≠ 13 := by rw [ho.2]; omega
    by_cases e : a = o ∧ j = k
    · obtain ⟨rfl, rfl⟩ := e
      have : rf (sZ S.1 ci j a q) a j = some q := by
        unfold rf
        rw [show zK (sZ S.1 ci j a q) a = zK S.1 a from rfl, if_neg e13, ho.2]
        simp [sZ, zR]
      rw [this] at hr
      injection hr with hr
      subst hr
      exact ⟨hq.1, Or.inl hq.2⟩
    · have hr' : rf S.1 a j = some r := by
        unfold rf at hr ⊢
        rw [show zK (sZ S.1 ci k o q) a = zK S.1 a from rfl] at hr
        by_cases e3 : zK S.1 a = 13
        · rw [if_pos e3] at hr ⊢; exact hr
        · rw [if_neg e3] at hr ⊢
          have : zR (sZ S.1 ci k o q) (zK S.1 a) j a = zR S.1 (zK S.1 a) j a := by
            simp only [sZ, zR]
            rw [if_neg (fun z => e ⟨z.2.2, z.2.1⟩)]
          rw [this] at hr; exact hr
      exact h.1 a j r ha hr'
  · obtain ⟨w1, w2, w3, w4⟩ := w
    refine ⟨w1, ?_, w3, w4⟩
    have : zR (sZ S.1 ci k o q) 7 0 x = zR S.1 7 0 x := by
      simp only [sZ, zR]
      rw [if_neg (fun z => h7 z.1.symm)]
    rw [this] at w2
    exact w2
theorem sZ_r (Z : Hz) (ci k o q : Nat) : zR (sZ Z ci k o q) ci k o = some q := by simp [sZ, zR]
theorem sZ_n (Z : Hz) {ci k o q c j b : Nat} (h : ¬ (c = ci ∧ j = k ∧ b = o)) : zR (sZ Z ci k o q) c j b = zR Z c j b := by simp only [sZ, zR]; rw [if_neg h]
theorem FIN.ofEq {Z Z' : Hz} {V V' : Hv} (hf : FIN Z V val a) (hk : zK Z' = zK Z) (hL : ∀ b, b ∈ zL Z → b ∈ zL Z') (hn : zn Z' = zn Z) (hr : ∀ c k, zR Z' c k a = zR Z c k a) (hA : zA Z' a = zA Z a) (hi : ∀ c k, vI V' c k a = vI V c k a) (hv : ∀ b k, rf Z a k = some b → val1 b = val b) : FIN Z' V' val1 a := by
  have zi : ∀ {q c : Nat}, zIn Z q c → zIn Z' q c := fun h => ⟨hL _ h.1, by rw [hk]; exact h.2⟩
  obtain ⟨f7, f3, f0, f13, f2, f1, f5, f4, f6⟩ := hf
  refine ⟨fun e => ?_, fun e => ?_, fun e k hk' => ?_, fun e i hi' => ?_, fun e => ?_, fun e => ?_, fun e => ?_, fun e => ?_, fun e => ?_⟩
  · rw [hk] at e
    obtain ⟨g, w1, w2, w3, w4⟩ := f7 e
    exact ⟨g, zi w1, by rw [hr]; exact w2, zi w3, by rw [hn]; exact w4⟩
  · rw [hk] at e
    obtain ⟨u, v, e1, e2, i1, i2, v1, v2, v3⟩ := f3 e
    exact ⟨u, v, by rw [hr]; exact e1, by rw [hr]; exact e2, zi i1, zi i2, by rw [hv u 0 (by unfold rf; rw [e]; exact e1)]; exact v1, by rw [hv v 1 (by unfold rf; rw [e]; exact e2)]; exact v2, by rw [hi]; exact v3⟩
  · rw [hk] at e
    obtain ⟨q, e1, e2⟩ := f0 e k hk'
    exact ⟨q, by rw [hr]; exact e1, zi e2⟩
  · rw [hk] at e
    rw [hn] at hi'
    obtain ⟨q, e1, e2⟩ := f13 e i hi'
    exact ⟨q, by rw [hA]; exact e1, zi e2⟩
  · rw [hk] at e
    obtain ⟨n, A, wk, ra, co, fa, pd, ⟨e1, e2, e3, e4, e5, e6⟩, ⟨i1, i2, i3, i4, i5, i6, i7, i8, i9⟩, vn, n1, n5⟩ := f2 e
    exact ⟨n, A, wk, ra, co, fa, pd, ⟨by rw [hr]; exact e1, by rw [hr]; exact e2, by rw [hr]; exact e3, by rw [hr]; exact e4, by rw [hr]; exact e5, by rw [hr]; exact e6⟩, ⟨zi i1, zi i2, by rw [hn]; exact i3, zi i4, by rw [hn]; exact i5, zi i6, by rw [hn]; exact i7, zi i8, zi i9⟩, by rw [hi]; exact vn, n1, n5⟩
  · rw [hk] at e
    obtain ⟨n, A, oa, pr, ⟨e1, e2, e3⟩, ⟨i1, i2, i3, i4⟩, vn, n1, n5⟩ := f1 e
    exact ⟨n, A, oa, pr, ⟨by rw [hr]; exact e1, by rw [hr]; exact e2, by rw [hr]; exact e3⟩, ⟨zi i1, zi i2, by rw [hn]; exact i3, zi i4⟩, by rw [hi]; exact vn, n1, n5⟩
  · rw [hk] at e
    obtain ⟨n, A, c1, c2, c3, ua, pr, su, ⟨e1, e2, e3, e4, e5, e6, e7⟩, ⟨i1, i2, i3, i4, i5, i6, i7, i8, i9, i10, i11⟩, vn, v8, n1, n5⟩ := f5 e
    exact ⟨n, A, c1, c2, c3, ua, pr, su, ⟨by rw [hr]; exact e1, by rw [hr]; exact e2, by rw [hr]; exact e3, by rw [hr]; exact e4, by rw [hr]; exact e5, by rw [hr]; exact e6, by rw [hr]; exact e7⟩, ⟨zi i1, zi i2, by rw [hn]; exact i3, zi i4, by rw [hn]; exact i5, zi i6, by rw [hn]; exact i7, zi i8, by rw [hn]; exact i9, zi i10, zi i11⟩, by rw [hi]; exact vn, by rw [hi]; exact v8, n1, n5⟩
  · rw [hk] at e
    obtain ⟨A, e0, i0, hk', v9⟩ := f4 e
    refine ⟨A, by rw [hr]; exact e0, zi i0, fun k h1 h2 => ?_, by rw [hi]; exact v9⟩
    obtain ⟨q, e1, i1, v1⟩ := hk' k h1 h2
    exact ⟨q, by rw [hr]; exact e1, zi i1, by rw [hv q k (by unfold rf; rw [e]; exact e1)]; exact v1⟩
  · rw [hk] at e
    obtain ⟨A, ba, e0, i0, hk', e4, i4, n4, v5⟩ := f6 e
    refine ⟨A, ba, by rw [hr]; exact e0, zi i0, fun k h1 h2 => ?_, by rw [hr]; exact e4, zi i4, by rw [hn]; exact n4, by rw [hi]; exact v5⟩
    obtain ⟨q, e1, i1, v1⟩ := hk' k h1 h2
    exact ⟨q, by rw [hr]; exact e1, zi i1, by rw [hv q k (by unfold rf; rw [e]; exact e1)]; exact v1⟩
/-- the same, behind a growth: into a place of o -/
theorem Gr.put (h : Gr S S1 o ow ow1 val val1) (ho : o ∈ zL S.1) (hq : q ∉ zL S.1) (k : Nat) (y : Option (Nat × Nat)) : Gr S (sZ S1.1 ci k o q, S1.2) o ow (va_up ow1 q y) val val1 := by
  refine ⟨fun a ha => ?_, fun a h1 h2 => ?_⟩
  · obtain ⟨a1, a2, a3, a4, a5, a6⟩ := h.1 a ha
    have nq : a ≠ q := fun e => hq (e ▸ ha)
    refine ⟨a1, a2, a3, by rw [up_ne _ _ nq]; exact a4, a5, fun hne => ?_⟩
    obtain ⟨c1, c2, c3, c4, c5⟩ := a6 hne
    exact ⟨fun c j => by rw [sZ_n _ (fun z => hne z.2.2)]; exact c1 c j, c2, c3, c4, c5⟩
  · have hne : a ≠ o := fun e => h2 (e ▸ ho)
    exact (h.2 a h1 h2).ofEq rfl (fun b hb => hb) rfl (fun c j => sZ_n _ (fun z => hne z.2.2)) rfl (fun _ _ => rfl) (fun _ _ _ => rfl)
theorem Gr.putA (h : Gr S S1 o ow ow1 val val1) (ho : o ∈ zL S.1) (k : Nat) : Gr S (sZ S1.1 ci k o q, S1.2) o ow ow1 val val1 := by
  refine ⟨fun a ha => ?_, fun a h1 h2 => ?_⟩
  · obtain ⟨a1, a2, a3, a4, a5, a6⟩ := h.1 a ha
    refine ⟨a1, a2, a3, a4, a5, fun hne => ?_⟩
    obtain ⟨c1, c2, c3, c4, c5⟩ := a6 hne
    exact ⟨fun c j => by rw [sZ_n _ (fun z => hne z.2.2)]; exact c1 c j, c2, c3, c4, c5⟩
  · have hne : a ≠ o := fun e => h2 (e ▸ ho)
    exact (h.2 a h1 h2).ofEq rfl (fun b hb => hb) rfl (fun c j => sZ_n _ (fun z => hne z.2.2)) rfl (fun _ _ => rfl) (fun _ _ _ => rfl)
theorem Gr.putI (h : Gr S S1 o ow ow1 val val1) (ho : o ∈ zL S.1) (k : Nat) (x : Int32) : Gr S (S1.1, sI S1.2 ci k o x) o ow ow1 val val1 := by
  refine ⟨fun a ha => ?_, fun a h1 h2 => ?_⟩
  · obtain ⟨a1, a2, a3, a4, a5, a6⟩ := h.1 a ha
    refine ⟨a1, a2, a3, a4, a5, fun hne => ?_⟩
    obtain ⟨c1, c2, c3, c4, c5⟩ := a6 hne
    exact ⟨c1, c2, fun c j => by rw [vI_sI_ne _ _ (fun z => hne z.2.2)]; exact c3 c j, c4, c5⟩
  · have hne : a ≠ o := fun e => h2 (e ▸ ho)
    exact (h.2 a h1 h2).ofEq rfl (fun b hb => hb) rfl (fun _ _ => rfl) rfl (fun c j => vI_sI_ne _ _ (fun z => hne z.2.2)) (fun _ _ _ => rfl)
theorem CI.putI (h : CI S ow val) (h7 : ci ≠ 7) (k o : Nat) (x : Int32) : CI (S.1, sI S.2 ci k o x) ow val := ⟨h.1, fun y g w => by
  obtain ⟨v1, v2⟩ := h.2.1 y g w
  exact ⟨v1, by rw [vI_sI_ne _ _ (fun z => h7 z.1.symm)]; exact v2⟩, h.2.2⟩
/-- a Whole that o holds gets a value; o was there, the Whole was not -/
theorem Gr.bits {V' : Hv} {g v n : Nat} (h : Gr S S1 o ow ow1 val val1) (hC : CI S1 ow1 val1) (ho : o ∈ zL S.1) (hv : v ∉ zL S.1) (hg : g ∉ zL S.1) (how : ow1 v = some (o, k)) (hw : wh S1.1 v g) (hV : oW S1.2 V' v g) (hx : vv V' v g n) : Gr S (S1.1, V') o ow ow1 val (va_up val1 v n) ∧ CI (S1.1, V') ow1 (va_up val1 v n) := by
  refine ⟨⟨fun a ha => ?_, fun a h1 h2 => ?_⟩, hC.1, (hC.2.1.up hC.1.inj hw hV hx).1, hC.2.2⟩
  · obtain ⟨a1, a2, a3, a4, a5, a6⟩ := h.1 a ha
    have n1 : a ≠ v := fun e => hv (e ▸ ha)
    have n2 : a ≠ g := fun e => hg (e ▸ ha)
    refine ⟨a1, a2, a3, a4, by rw [up_ne _ _ n1]; exact a5, fun hne => ?_⟩
    obtain ⟨c1, c2, c3, c4, c5⟩ := a6 hne
    exact ⟨c1, c2, fun c j => by rw [hV.1 c j a (fun z => n1 z.2.2)]; exact c3 c j, by rw [hV.2.1 a n2]; exact c4, by rw [hV.2.2]; exact c5⟩
  · have hne : a ≠ o := fun e => h2 (e ▸ ho)
    by_cases e7 : zK S1.1 a = 7
    · obtain ⟨f7, -⟩ := h.2 a h1 h2
      have no : ∀ c, c ≠ 7 → ¬ zK S1.1 a = c := fun c hc z => hc (z.symm.trans e7)
      exact ⟨fun _ => f7 e7, fun z => absurd z (no 3 (by decide)), fun z => absurd z (no 0 (by decide)), fun z => absurd z (no 13 (by decide)), fun z => absurd z (no 2 (by decide)), fun z => absurd z (no 1 (by decide)), fun z => absurd z (no 5 (by decide)), fun z => absurd z (no 4 (by decide)), fun z => absurd z (no 6 (by decide))⟩
    · refine (h.2 a h1 h2).ofEq rfl (fun b hb => hb) rfl (fun _ _ => rfl) rfl (fun c j => hV.1 c j a (fun z => ?_)) (fun b j hb => up_ne _ _ (fun e => ?_))
      · rw [z.2.2] at e7
        exact e7 hw.1.2
      · subst e
        obtain ⟨-, m⟩ := hC.1 a j b h1 hb
        rcases m with m | m
        · rw [hw.1.2] at m; cases m
        · rw [how] at m
          injection m with m
          injection m with m1
          exact hne m1.symm
end BUILD
