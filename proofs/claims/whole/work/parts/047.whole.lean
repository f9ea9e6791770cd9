/-! ===== Whole by values: the contracts as the other classes use them ===== -/
def iW (Z : Hz) (o : Nat) : Prop := ∃ g, wh Z o g
theorem wh.ne {Z : Hz} {o o' g g' : Nat} (hJ : wInj Z) (h : wh Z o g) (h' : wh Z o' g') (hne : o' ≠ o) : g' ≠ g := fun e => hne (hJ o' o g (e ▸ h') h)
section BYVAL
variable {Γ : Gm} {Z : Hz} {V : Hv} {val : Nat → Nat} {o o' oa ob : Nat}
theorem C_isZero (hC : CV Z V val) (ho : iW Z o) : zCt Γ mX8_isZero 0 0 0 0 [.ref o] (Z, V) (pZ (q0 Z V (decide (val o = 0)))) := by
  obtain ⟨g, ho⟩ := ho
  exact c_isZero ho (hC o g ho)
theorem C_isOne (hC : CV Z V val) (ho : iW Z o) : zCt Γ mX8_isOne 0 0 0 0 [.ref o] (Z, V) (pZ (q0 Z V (decide (val o = 1)))) := by
  obtain ⟨g, ho⟩ := ho
  exact c_isOne ho (hC o g ho)
theorem C_isWide (hC : CV Z V val) (ho : iW Z o) : zCt Γ mX8_isWide 0 0 0 0 [.ref o] (Z, V) (pZ (q0 Z V (decide (val o < 4294967296 ^ 6)))) := by
  obtain ⟨g, ho⟩ := ho
  exact c_isWide ho (hC o g ho)
theorem C_fitsLong (hC : CV Z V val) (ho : iW Z o) : zCt Γ mX8_fitsLong 0 0 0 0 [.ref o] (Z, V) (pZ (q0 Z V (decide (val o < 9223372036854775808)))) := by
  obtain ⟨g, ho⟩ := ho
  exact c_fitsLong ho (hC o g ho)
theorem C_toLong (hC : CV Z V val) (ho : iW Z o) : zCt Γ mX8_toLong 0 0 0 0 [.ref o] (Z, V) (pL (q0 Z V (lN (val o % 18446744073709551616)))) := by
  obtain ⟨g, ho⟩ := ho
  exact c_toLong ho (hC o g ho)
theorem C_bits (hC : CV Z V val) (ho : iW Z o) : zCt Γ mX8_bits 1 21 0 0 [.ref o] (Z, V) (pI (q0 Z V (nI (bl (val o))))) := by
  obtain ⟨g, ho⟩ := ho
  exact c_bits ho (hC o g ho)
theorem C_against (hC : CV Z V val) (ho : iW Z o) (ho' : iW Z o') : zCt Γ mX8_against 0 0 0 0 [.ref o, .ref o'] (Z, V) (pI (q0 Z V (cmpI (val o) (val o')))) := by
  obtain ⟨g, ho⟩ := ho
  obtain ⟨g', ho'⟩ := ho'
  exact c_against ho ho' (hC o g ho) (hC o' g' ho')
theorem C_restBy {p : Nat} (hC : CV Z V val) (ho : iW Z o) (hp0 : 0 < p) (hp : p < 2147483648) : zCt Γ mX8_restBy 0 0 0 0 [.ref o, .int (nI p)] (Z, V) (pI (q0 Z V (nI (val o % p)))) := by
  obtain ⟨g, ho⟩ := ho
  exact c_restBy ho (hC o g ho) hp0 hp
theorem qW.of {g x : Nat} {S' : Hs} {r : Option Value} (hC : CV Z V val) (hJ : wInj Z) (ho : wh Z o g) (h : pV (rW Z V o g x) r S') : pV (qW Z V val o x) r S' := ⟨h.1, h.2.q hC hJ ho⟩
theorem C_setBits {n : Nat} (hC : CV Z V val) (hJ : wInj Z) (ho : iW Z o) (hn : n < 18446744073709551616) : zCt Γ mX8_setBits 0 0 0 0 [.ref o, .long (lN n)] (Z, V) (pV (qW Z V val o n)) := by
  obtain ⟨g, ho⟩ := ho
  exact (c_setBits ho (hC o g ho) hn).mono (fun _ _ h => qW.of hC hJ ho h)
theorem C_copy (hC : CV Z V val) (hJ : wInj Z) (ho : iW Z o) (ho' : iW Z o') : zCt Γ mX8_copy 1 38 0 0 [.ref o, .ref o'] (Z, V) (pV (qW Z V val o (val o'))) := by
  obtain ⟨g, ho⟩ := ho
  obtain ⟨g', ho'⟩ := ho'
  exact (c_copy ho ho' (hC o' g' ho')).mono (fun _ _ h => qW.of hC hJ ho h)
theorem C_increase (hC : CV Z V val) (hJ : wInj Z) (ho : iW Z o) (ho' : iW Z o') (hne : o' ≠ o) (hs : val o + val o' < 4294967296 ^ 16) : zCt Γ mX8_increase 1 21 0 0 [.ref o, .ref o'] (Z, V) (pV (qW Z V val o (val o + val o'))) := by
  obtain ⟨g, ho⟩ := ho
  obtain ⟨g', ho'⟩ := ho'
  exact (c_increase ho ho' (hC o g ho) (hC o' g' ho') (wh.ne hJ ho ho' hne) hne hs).mono (fun _ _ h => qW.of hC hJ ho h)
theorem C_decrease (hC : CV Z V val) (hJ : wInj Z) (ho : iW Z o) (ho' : iW Z o') (hne : o' ≠ o) (hs : val o' ≤ val o) : zCt Γ mX8_decrease 1 20 0 0 [.ref o, .ref o'] (Z, V) (pV (qW Z V val o (val o - val o'))) := by
  obtain ⟨g, ho⟩ := ho
  obtain ⟨g', ho'⟩ := ho'
  exact (c_decrease ho ho' (hC o g ho) (hC o' g' ho') (wh.ne hJ ho ho' hne) hs).mono (fun _ _ h => qW.of hC hJ ho h)
theorem C_scale {k : Nat} (hC : CV Z V val) (hJ : wInj Z) (ho : iW Z o) (hk : k < 2147483648) (hs : val o * k < 4294967296 ^ 16) : zCt Γ mX8_scale 1 21 0 0 [.ref o, .int (nI k)] (Z, V) (pV (qW Z V val o (val o * k))) := by
  obtain ⟨g, ho⟩ := ho
  exact (c_scale ho (hC o g ho) hk hs).mono (fun _ _ h => qW.of hC hJ ho h)
theorem C_shiftLeft {s : Nat} (hC : CV Z V val) (hJ : wInj Z) (ho : iW Z o) (hk : s < 32) (hs : val o * 2 ^ s < 4294967296 ^ 16) : zCt Γ mX8_shiftLeft 0 0 0 0 [.ref o, .int (nI s)] (Z, V) (pV (qW Z V val o (val o * 2 ^ s))) := by
  obtain ⟨g, ho⟩ := ho
  exact (c_shiftLeft ho (hC o g ho) hk hs).mono (fun _ _ h => qW.of hC hJ ho h)
theorem C_setProduct (hC : CV Z V val) (hJ : wInj Z) (ho : iW Z o) (hoa : iW Z oa) (hob : iW Z ob) (hna : oa ≠ o) (hnb : ob ≠ o) (hs : nl (val oa) + nl (val ob) ≤ 16) : zCt Γ mX8_setProduct 1 23 0 0 [.ref o, .ref oa, .ref ob] (Z, V) (pV (qW Z V val o (val oa * val ob))) := by
  obtain ⟨g, ho⟩ := ho
  obtain ⟨ga, hoa⟩ := hoa
  obtain ⟨gb, hob⟩ := hob
  exact (c_setProduct ho hoa hob (hC o g ho) (hC oa ga hoa) (hC ob gb hob) (wh.ne hJ ho hoa hna) (wh.ne hJ ho hob hnb) hna hnb hs).mono (fun _ _ h => qW.of hC hJ ho h)
theorem C_shrinkBy {p : Nat} (hC : CV Z V val) (hJ : wInj Z) (ho : iW Z o) (hp0 : 0 < p) (hp : p < 2147483648) : zCt Γ mX8_shrinkBy 1 20 0 0 [.ref o, .int (nI p)] (Z, V) (pI (fun r S' => r = nI (val o % p) ∧ qW Z V val o (val o / p) S')) := by
  obtain ⟨g, ho⟩ := ho
  refine (c_shrinkBy ho (hC o g ho) hp0 hp).mono (fun r S' h => ?_)
  obtain ⟨v, h1, h2, h3⟩ := h
  exact ⟨v, h1, h2, h3.q hC hJ ho⟩
end BYVAL
/-- values differ at most where P says -/
def eV (P : Nat → Prop) (val val' : Nat → Nat) : Prop := ∀ o, ¬ P o → val' o = val o
theorem eV.refl (P : Nat → Prop) (val : Nat → Nat) : eV P val val := fun _ _ => rfl
theorem eV.trans {P : Nat → Prop} {v0 v1 v2 : Nat → Nat} (h1 : eV P v0 v1) (h2 : eV P v1 v2) : eV P v0 v2 := fun o h => (h2 o h).trans (h1 o h)
theorem eV.up {P : Nat → Prop} {v0 v1 : Nat → Nat} {o x : Nat} (h : eV P v0 v1) (hp : P o) : eV P v0 (va_up v1 o x) := fun q hq => by
  have : q ≠ o := fun e => hq (e ▸ hp)
  simp only [va_up, if_neg this]
  exact h q hq
theorem eV.mono {P P' : Nat → Prop} {v0 v1 : Nat → Nat} (h : eV P v0 v1) (hp : ∀ o, P o → P' o) : eV P' v0 v1 := fun o ho => h o (fun z => ho (hp o z))
theorem up_self {α : Type} (f : Nat → α) (k : Nat) (v : α) : va_up f k v k = v := by simp [va_up]
theorem up_ne {α : Type} (f : Nat → α) {k j : Nat} (v : α) (h : j ≠ k) : va_up f k v j = f j := by simp [va_up, h]
/-- the Arithmetic at A with its twelve Wholes w -/
def aR (Z : Hz) (A : Nat) (w : Nat → Nat) : Prop := zIn Z A 0 ∧ (∀ k, k < 12 → zR Z 0 k A = some (w k) ∧ iW Z (w k)) ∧ ∀ i j, i < 12 → j < 12 → w i = w j → i = j
theorem aR.ne {Z : Hz} {A : Nat} {w : Nat → Nat} (h : aR Z A w) {i j : Nat} (hi : i < 12) (hj : j < 12) (hij : i ≠ j) : w i ≠ w j := fun e => hij (h.2.2 i j hi hj e)
/-- one of the Arithmetic's own Wholes -/
def aW (w : Nat → Nat) : Nat → Prop := fun o => ∃ k, k < 12 ∧ o = w k
