/-! ===== Wholes by what is told ===== -/
/-- the Whole o, of a Fraction or of its own, is told as x -/
def gW (Z : Hz) (uo vo w : Nat → Nat) (T : Nat → Fr) (X : Nat → Nat) (o x : Nat) : Prop := (xW Z uo vo w o ∧ X o = x) ∨ ∃ q, zIn Z q 3 ∧ ((o = uo q ∧ (T q).2.1 = x) ∨ (o = vo q ∧ (T q).2.2 = x))
section KW
variable {Γ : Gm} {Z : Hz} {V : Hv} {T : Nat → Fr} {X : Nat → Nat} {uo vo w : Nat → Nat} {A o o1 o2 o3 oa ob x y z : Nat}
theorem gW.iw (h : gW Z uo vo w T X o x) (hS : fS Z uo vo w) : iW Z o := by
  rcases h with h | ⟨q, hq, h | h⟩
  · exact h.1.1
  · rw [h.1]; exact (hS.1 q hq).1.2.2.2.1
  · rw [h.1]; exact (hS.1 q hq).1.2.2.2.2
theorem gW.out (h : gW Z uo vo w T X o x) (hS : fS Z uo vo w) : ¬ aW w o := by
  rcases h with h | ⟨q, hq, h | h⟩
  · exact h.1.2.1
  · rw [h.1]; exact (hS.out hq).1
  · rw [h.1]; exact (hS.out hq).2
theorem gW.val {val : Nat → Nat} {bel : Nat → Bool} (h : gW Z uo vo w T X o x) (hT : ∀ q, zIn Z q 3 → fr val bel uo vo q = T q ∧ fok (T q)) (hX : ∀ o, xW Z uo vo w o → val o = X o) : val o = x := by
  rcases h with h | ⟨q, hq, h | h⟩
  · rw [hX o h.1, h.2]
  · rw [h.1, ← h.2, ← (hT q hq).1]
  · rw [h.1, ← h.2, ← (hT q hq).1]
theorem gW.mk (h : xW Z uo vo w o) : gW Z uo vo w T X o (X o) := Or.inl ⟨h, rfl⟩
theorem gW.ne (h : gW Z uo vo w T X o x) (ho : xW Z uo vo w o1) (hne : xW Z uo vo w o → o ≠ o1) : o ≠ o1 := by
  rcases h with h | ⟨q, hq, h | h⟩
  · exact hne h.1
  · intro e; exact (ho.2.2 q hq).1 (by rw [← e]; exact h.1)
  · intro e; exact (ho.2.2 q hq).2 (by rw [← e]; exact h.1)
/-- values of Wholes of their own move, and those of Arithmetic -/
theorem KS.moved {val val' : Nat → Nat} {bel : Nat → Bool} {V' : Hv} {X' : Nat → Nat} {P : Nat → Prop} (hC : CF Z V val bel) (hS : fS Z uo vo w) (hT : ∀ q, zIn Z q 3 → fr val bel uo vo q = T q ∧ fok (T q)) (hC' : CV Z V' val') (hN : eN Z V V') (hE : eV P val val') (hP : ∀ o, P o → aW w o ∨ xW Z uo vo w o) (hX' : ∀ o, xW Z uo vo w o → val' o = X' o) : kP Z uo vo w V T X' (Z, V') := by
  refine ⟨V', rfl, ⟨val', bel, hC.w hC' hN, fun q hq => ?_, hX'⟩, hN.F⟩
  obtain ⟨t1, t2⟩ := hT q hq
  refine ⟨?_, t2⟩
  rw [← t1]
  simp only [fr]
  have ou := hS.out hq
  rw [hE (uo q) (fun h => by
    rcases hP _ h with h | h
    · exact ou.1 h
    · exact (h.2.2 q hq).1 rfl), hE (vo q) (fun h => by
    rcases hP _ h with h | h
    · exact ou.2 h
    · exact (h.2.2 q hq).2 rfl)]
theorem KS.qw {val : Nat → Nat} {bel : Nat → Bool} {S' : Hs} (hC : CF Z V val bel) (hS : fS Z uo vo w) (hT : ∀ q, zIn Z q 3 → fr val bel uo vo q = T q ∧ fok (T q)) (hX : ∀ o, xW Z uo vo w o → val o = X o) (ho : xW Z uo vo w o) (h : qW Z V val o x S') : kP Z uo vo w V T (va_up X o x) S' := by
  obtain ⟨V', rfl, hC', hN⟩ := h
  refine KS.moved hC hS hT hC' hN (P := fun a => a = o) (fun a ha => up_ne _ _ ha) (fun a ha => Or.inr (by rw [ha]; exact ho)) (fun a ha => ?_)
  by_cases e : a = o
  · rw [e, up_self, up_self]
  · rw [up_ne _ _ e, up_ne _ _ e]; exact hX a ha
theorem K_wIsZero (hK : KS Z uo vo w V T X) (hS : fS Z uo vo w) (h : gW Z uo vo w T X o x) : zCt Γ mX8_isZero 0 0 0 0 [.ref o] (Z, V) (pZ (q0 Z V (decide (x = 0)))) := by
  obtain ⟨val, bel, hC, hT, hX⟩ := hK
  rw [← h.val hT hX]; exact C_isZero hC.1 (h.iw hS)
theorem K_wIsWide (hK : KS Z uo vo w V T X) (hS : fS Z uo vo w) (h : gW Z uo vo w T X o x) : zCt Γ mX8_isWide 0 0 0 0 [.ref o] (Z, V) (pZ (q0 Z V (decide (x < 4294967296 ^ 6)))) := by
  obtain ⟨val, bel, hC, hT, hX⟩ := hK
  rw [← h.val hT hX]; exact C_isWide hC.1 (h.iw hS)
theorem K_against (hK : KS Z uo vo w V T X) (hS : fS Z uo vo w) (h : gW Z uo vo w T X o x) (h1 : gW Z uo vo w T X o1 y) : zCt Γ mX8_against 0 0 0 0 [.ref o, .ref o1] (Z, V) (pI (q0 Z V (cmpI x y))) := by
  obtain ⟨val, bel, hC, hT, hX⟩ := hK
  rw [← h.val hT hX, ← h1.val hT hX]; exact C_against hC.1 (h.iw hS) (h1.iw hS)
theorem K_restBy {p : Nat} (hK : KS Z uo vo w V T X) (hS : fS Z uo vo w) (h : gW Z uo vo w T X o x) (hp0 : 0 < p) (hp : p < 2147483648) : zCt Γ mX8_restBy 0 0 0 0 [.ref o, .int (nI p)] (Z, V) (pI (q0 Z V (nI (x % p)))) := by
  obtain ⟨val, bel, hC, hT, hX⟩ := hK
  rw [← h.val hT hX]; exact C_restBy hC.1 (h.iw hS) hp0 hp
theorem K_setBits {n : Nat} (hK : KS Z uo vo w V T X) (hJ : wInj Z) (hS : fS Z uo vo w) (ho : xW Z uo vo w o) (hn : n < 18446744073709551616) : zCt Γ mX8_setBits 0 0 0 0 [.ref o, .long (lN n)] (Z, V) (pV (kP Z uo vo w V T (va_up X o n))) := by
  obtain ⟨val, bel, hC, hT, hX⟩ := hK
  exact (C_setBits hC.1 hJ ho.1 hn).mono (fun r S' h => ⟨h.1, KS.qw hC hS hT hX ho h.2⟩)
theorem K_wcopy (hK : KS Z uo vo w V T X) (hJ : wInj Z) (hS : fS Z uo vo w) (ho : xW Z uo vo w o) (h1 : gW Z uo vo w T X o1 y) : zCt Γ mX8_copy 1 38 0 0 [.ref o, .ref o1] (Z, V) (pV (kP Z uo vo w V T (va_up X o y))) := by
  obtain ⟨val, bel, hC, hT, hX⟩ := hK
  rw [← h1.val hT hX]
  exact (C_copy hC.1 hJ ho.1 (h1.iw hS)).mono (fun r S' h => ⟨h.1, KS.qw hC hS hT hX ho h.2⟩)
theorem K_scale {k : Nat} (hK : KS Z uo vo w V T X) (hJ : wInj Z) (hS : fS Z uo vo w) (ho : xW Z uo vo w o) (hk : k < 2147483648) (hs : X o * k < 4294967296 ^ 16) : zCt Γ mX8_scale 1 21 0 0 [.ref o, .int (nI k)] (Z, V) (pV (kP Z uo vo w V T (va_up X o (X o * k)))) := by
  obtain ⟨val, bel, hC, hT, hX⟩ := hK
  rw [← hX o ho] at hs ⊢
  exact (C_scale hC.1 hJ ho.1 hk hs).mono (fun r S' h => ⟨h.1, KS.qw hC hS hT hX ho h.2⟩)
theorem K_shl1 (hK : KS Z uo vo w V T X) (hJ : wInj Z) (hS : fS Z uo vo w) (ho : xW Z uo vo w o) (hs : X o * 2 ^ 1 < 4294967296 ^ 16) : zCt Γ mX8_shiftLeft 0 0 0 0 [.ref o, .int (nI 1)] (Z, V) (pV (kP Z uo vo w V T (va_up X o (X o * 2 ^ 1)))) := by
  obtain ⟨val, bel, hC, hT, hX⟩ := hK
  rw [← hX o ho] at hs ⊢
  exact (C_shiftLeft hC.1 hJ ho.1 (by decide) hs).mono (fun r S' h => ⟨h.1, KS.qw hC hS hT hX ho h.2⟩)
theorem K_increase (hK : KS Z uo vo w V T X) (hJ : wInj Z) (hS : fS Z uo vo w) (ho : xW Z uo vo w o) (h1 : gW Z uo vo w T X o1 y) (hne : o1 ≠ o) (hs : X o + y < 4294967296 ^ 16) : zCt Γ mX8_increase 1 21 0 0 [.ref o, .ref o1] (Z, V) (pV (kP Z uo vo w V T (va_up X o (X o + y)))) := by
  obtain ⟨val, bel, hC, hT, hX⟩ := hK
  rw [← h1.val hT hX, ← hX o ho] at hs ⊢
  exact (C_increase hC.1 hJ ho.1 (h1.iw hS) hne hs).mono (fun r S' h => ⟨h.1, KS.qw hC hS hT hX ho h.2⟩)
theorem K_setProduct (hK : KS Z uo vo w V T X) (hJ : wInj Z) (hS : fS Z uo vo w) (ho : xW Z uo vo w o) (ha : gW Z uo vo w T X oa x) (hb : gW Z uo vo w T X ob y) (hna : oa ≠ o) (hnb : ob ≠ o) (hs : nl x + nl y ≤ 16) : zCt Γ mX8_setProduct 1 23 0 0 [.ref o, .ref oa, .ref ob] (Z, V) (pV (kP Z uo vo w V T (va_up X o (x * y)))) := by
  obtain ⟨val, bel, hC, hT, hX⟩ := hK
  rw [← ha.val hT hX, ← hb.val hT hX] at hs ⊢
  exact (C_setProduct hC.1 hJ ho.1 (ha.iw hS) (hb.iw hS) hna hnb hs).mono (fun r S' h => ⟨h.1, KS.qw hC hS hT hX ho h.2⟩)
theorem K_shrinkBy {p : Nat} (hK : KS Z uo vo w V T X) (hJ : wInj Z) (hS : fS Z uo vo w) (ho : xW Z uo vo w o) (hp0 : 0 < p) (hp : p < 2147483648) : zCt Γ mX8_shrinkBy 1 20 0 0 [.ref o, .int (nI p)] (Z, V) (pI (fun r S' => r = nI (X o % p) ∧ kP Z uo vo w V T (va_up X o (X o / p)) S')) := by
  obtain ⟨val, bel, hC, hT, hX⟩ := hK
  rw [← hX o ho]
  exact (C_shrinkBy hC.1 hJ ho.1 hp0 hp).mono (fun r S' h => by
    obtain ⟨v, hv, h1, h2⟩ := h
    exact ⟨v, hv, h1, KS.qw hC hS hT hX ho h2⟩)
theorem K_divide (hK : KS Z uo vo w V T X) (hJ : wInj Z) (hA : aR Z A w) (hS : fS Z uo vo w) (h1 : xW Z uo vo w o1) (h2 : gW Z uo vo w T X o2 y) (h3 : xW Z uo vo w o3) (n12 : o1 ≠ o2) (n13 : o1 ≠ o3) (n23 : o2 ≠ o3) (hx : X o1 < 4294967296 ^ 14) : zCt Γ mX0_divide 2 59 0 0 [.ref A, .ref o1, .ref o2, .ref o3] (Z, V) (pV (kP Z uo vo w V T (va_up (va_up X o1 (X o1 % y)) o3 (X o1 / y)))) := by
  obtain ⟨val, bel, hC, hT, hX⟩ := hK
  have out : ∀ {o}, ¬ aW w o → o ≠ w 0 := fun h e => h ⟨0, by decide, e⟩
  rw [← h2.val hT hX, ← hX o1 h1] at *
  refine (c_divide hJ hA hC.1 h1.1 (h2.iw hS) h3.1 n12 n13 n23 (out h1.2.1) (out (h2.out hS)) (out h3.2.1) hx).mono (fun r S' h => ⟨h.1, ?_⟩)
  obtain ⟨V', val', rfl, hC', hN, e1, e3, hE⟩ := h.2
  refine KS.moved hC hS hT hC' hN hE (fun o ho => ?_) (fun o ho => ?_)
  · rcases ho with h | h | h
    · exact Or.inl ⟨0, by decide, h⟩
    · exact Or.inr (by rw [h]; exact h1)
    · exact Or.inr (by rw [h]; exact h3)
  · by_cases z3 : o = o3
    · rw [z3, up_self, e3]
    · rw [up_ne _ _ z3]
      by_cases z1 : o = o1
      · rw [z1, up_self, e1]
      · rw [up_ne _ _ z1, hE o (fun h => by
          rcases h with h | h | h
          · exact out ho.2.1 h
          · exact z1 h
          · exact z3 h)]
        exact hX o ho
theorem K_nothing (hK : KS Z uo vo w V T X) (hJ : wInj Z) (hA : aR Z A w) (hS : fS Z uo vo w) (h1 : gW Z uo vo w T X oa x) (h2 : gW Z uo vo w T X ob y) (hx : x < 4294967296 ^ 14) (hy : y < 4294967296 ^ 14) : zCt Γ mX0_haveNothingCommon 4 115 0 0 [.ref A, .ref oa, .ref ob] (Z, V) (pZ (fun r S' => r = decide (Nat.gcd x y = 1) ∧ kP Z uo vo w V T X S')) := by
  obtain ⟨val, bel, hC, hT, hX⟩ := hK
  have hb2 : ob ≠ w 2 := fun e => h2.out hS ⟨2, by decide, e⟩
  have i1 := h1.iw hS
  have i2 := h2.iw hS
  rw [← h1.val hT hX] at hx ⊢
  rw [← h2.val hT hX] at hy ⊢
  refine (c_haveNothingCommon hJ hA hC.1 i1 i2 hb2 hx hy).mono (fun r S' h => ?_)
  obtain ⟨b, hb, h1, V', val', rfl, hC', hN, -, hE⟩ := h
  refine ⟨b, hb, h1, KS.moved hC hS hT hC' hN hE (fun o ho => Or.inl ?_) (fun o ho => ?_)⟩
  · rcases ho with h | h | h | h | h
    · exact ⟨0, by decide, h⟩
    · exact ⟨1, by decide, h⟩
    · exact ⟨2, by decide, h⟩
    · exact ⟨3, by decide, h⟩
    · exact ⟨4, by decide, h⟩
  · rw [hE o (fun h => ho.2.1 (by
      rcases h with h | h | h | h | h
      · exact ⟨0, by decide, h⟩
      · exact ⟨1, by decide, h⟩
      · exact ⟨2, by decide, h⟩
      · exact ⟨3, by decide, h⟩
      · exact ⟨4, by decide, h⟩))]
    exact hX o ho
theorem K_fSet {q : Nat} {s : Bool} (hK : KS Z uo vo w V T X) (hJ : wInj Z) (hS : fS Z uo vo w) (hq : zIn Z q 3) (ha : xW Z uo vo w oa) (hb : xW Z uo vo w ob) (hx : fok (s && decide (X oa ≠ 0), X oa, X ob)) : zCt Γ mX3_set 2 59 0 0 [.ref q, .int (zb s), .ref oa, .ref ob] (Z, V) (pV (kP Z uo vo w V (va_up T q (s && decide (X oa ≠ 0), X oa, X ob)) X)) := by
  obtain ⟨val, bel, hC, hT, hX⟩ := hK
  have hbu := (hb.2.2 q hq).1
  rw [← hX oa ha, ← hX ob hb] at hx ⊢
  exact (c_fSet hC hJ hS hq ha.1 hb.1 hbu).mono (fun r S' h => ⟨h.1, tP.k hS hq hT hX hx h.2⟩)
end KW
