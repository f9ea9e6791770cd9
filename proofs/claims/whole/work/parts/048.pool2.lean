/-! ===== several Wholes changed; halves; more ===== -/
theorem sA_comm (V : Hv) {a b : Nat} (f h : Nat → Int32) (hne : a ≠ b) : sA (sA V a f) b h = sA (sA V b h) a f := by
  simp only [sA]
  congr 2
  funext c
  by_cases h1 : c = a
  · subst h1; simp [va_up, hne]
  · by_cases h2 : c = b
    · subst h2; simp [va_up, h1]
    · simp [va_up, h1, h2]
theorem CV.of {Z : Hz} {V V' : Hv} {val val' : Nat → Nat} (hC : CV Z V val) (X : Nat → Prop) (hI : ∀ ci k a, ¬ (ci = 7 ∧ k = 1 ∧ X a) → vI V' ci k a = vI V ci k a) (hA : ∀ a, (∀ o, X o → ¬ wh Z o a) → vA V' a = vA V a) (hJJ : vJ V' = vJ V) (hJ : wInj Z) (hv : ∀ o g, X o → wh Z o g → vv V' o g (val' o)) (he : ∀ o, ¬ X o → val' o = val o) : CV Z V' val' ∧ eN Z V V' := by
  refine ⟨fun o g ho => ?_, fun ci k a h => hI ci k a (fun z => h ⟨z.1, z.2.1⟩), fun a ha => hA a (fun o _ => ha o), hJJ⟩
  by_cases hX : X o
  · exact hv o g hX ho
  · rw [he o hX]
    have := hC o g ho
    exact ⟨by rw [hA g (fun o' hX' hw => hX (hJ o' o g hw ho ▸ hX'))]; exact this.1, by rw [hI 7 1 o (fun z => hX z.2.2)]; exact this.2⟩
theorem half_div {P d : Nat} (hd : 0 < d) : P / 2 / d * 2 * d ≤ P ∧ (P - P / 2 / d * 2 * d < d → P / d = P / 2 / d * 2) ∧ (d ≤ P - P / 2 / d * 2 * d → P / d = P / 2 / d * 2 + 1) := by
  have h1 : P / 2 / d * d ≤ P / 2 := Nat.div_mul_le_self _ _
  have h2 : P / 2 < (P / 2 / d + 1) * d := by
    have a := Nat.div_add_mod (P / 2) d
    have b := Nat.mod_lt (P / 2) hd
    rw [Nat.add_mul, Nat.mul_comm (P / 2 / d)]
    omega
  rw [Nat.add_mul] at h2
  have h3 : P / 2 / d * 2 * d = 2 * (P / 2 / d * d) := by rw [Nat.mul_comm _ 2, Nat.mul_assoc]
  refine ⟨by omega, fun h => ?_, fun h => ?_⟩
  · apply Nat.div_eq_of_lt_le
    · omega
    · rw [Nat.add_mul]; omega
  · apply Nat.div_eq_of_lt_le
    · rw [Nat.add_mul]; omega
    · rw [Nat.add_mul, Nat.add_mul]; omega
theorem cmpI_ge (x y : Nat) : 0 ≤ cmpI x y ↔ y ≤ x := by
  unfold cmpI
  by_cases h : x < y
  · rw [if_pos h]
    constructor
    · intro z; exact absurd z (by decide)
    · intro z; omega
  · rw [if_neg h]
    by_cases h2 : x = y
    · rw [if_pos h2]; constructor <;> intro z <;> first | omega | decide
    · rw [if_neg h2]; constructor <;> intro z <;> first | omega | decide
theorem cmpI_lt (x y : Nat) : cmpI x y < 0 ↔ x < y := by
  rw [← Int32.not_le, cmpI_ge]
  omega
theorem cmpI_eq (x y : Nat) : cmpI x y = 0 ↔ x = y := by
  unfold cmpI
  by_cases h : x < y
  · rw [if_pos h]
    constructor
    · intro z; exact absurd z (by decide)
    · intro z; omega
  · rw [if_neg h]
    by_cases h2 : x = y
    · rw [if_pos h2]; simp [h2]
    · rw [if_neg h2]
      constructor
      · intro z; exact absurd z (by decide)
      · intro z; exact absurd z h2
theorem zb_eq0 (b : Bool) : zb b = 0 ↔ b = false := by cases b <;> decide
/-- what divide leaves -/
def dP (Z : Hz) (V : Hv) (val : Nat → Nat) (sd o1 o2 o3 : Nat) : Hs → Prop := fun S' => ∃ (V' : Hv) (val' : Nat → Nat), S' = (Z, V') ∧ CV Z V' val' ∧ eN Z V V' ∧ val' o1 = val o1 % val o2 ∧ val' o3 = val o1 / val o2 ∧ eV (fun q => q = sd ∨ q = o1 ∨ q = o3) val val'
