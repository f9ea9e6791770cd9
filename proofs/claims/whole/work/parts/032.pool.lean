/-! ===== the pool's words: stores read back; wholes and their values ===== -/
theorem vA_sA_self (V : Hv) (a : Nat) (f : Nat → Int32) : vA (sA V a f) a = f := by simp [sA, vA, va_up]
theorem vA_sA_ne (V : Hv) {a b : Nat} (f : Nat → Int32) (h : b ≠ a) : vA (sA V a f) b = vA V b := by simp [sA, vA, va_up, h]
theorem sA_sA (V : Hv) (a : Nat) (f f' : Nat → Int32) : sA (sA V a f) a f' = sA V a f' := by
  simp only [sA]
  congr 2
  funext b
  by_cases h : b = a <;> simp [va_up, h]
theorem sA_id (V : Hv) (a : Nat) : sA V a (vA V a) = V := by
  have : va_up V.2.1 a (V.2.1 a) = V.2.1 := by
    funext b
    by_cases h : b = a
    · subst h; simp [va_up]
    · simp [va_up, h]
  simp only [sA, vA, this]
theorem vI_sI_self (V : Hv) (ci k a : Nat) (x : Int32) : vI (sI V ci k a x) ci k a = x := by simp [sI, vI]
theorem vI_sI_ne (V : Hv) {ci k a ci' k' a' : Nat} (x : Int32) (h : ¬ (ci' = ci ∧ k' = k ∧ a' = a)) : vI (sI V ci k a x) ci' k' a' = vI V ci' k' a' := by simp [sI, vI, h]
theorem sI_sI (V : Hv) (ci k a : Nat) (x y : Int32) : sI (sI V ci k a x) ci k a y = sI V ci k a y := by
  simp only [sI]
  congr 1
  funext c j b
  by_cases h : c = ci ∧ j = k ∧ b = a <;> simp [h]
theorem sI_sA (V : Hv) (ci k a b : Nat) (x : Int32) (f : Nat → Int32) : sI (sA V b f) ci k a x = sA (sI V ci k a x) b f := rfl
-- a changed top of the stack
section TOP
variable {Γ : Gm} {κ : Cx} {S S' : Hs} {cs sl pc : Nat} {Q : State → Prop} {lv : Lv} {st : List Value}
theorem z_ti {x y : Int32} (h : x = y) (k : zX Γ κ S cs sl Q pc lv (.int y :: st)) : zX Γ κ S cs sl Q pc lv (.int x :: st) := h ▸ k
theorem z_tl {x y : Int64} (h : x = y) (k : zX Γ κ S cs sl Q pc lv (.long y :: st)) : zX Γ κ S cs sl Q pc lv (.long x :: st) := h ▸ k
theorem z_S (h : S = S') (k : zX Γ κ S' cs sl Q pc lv st) : zX Γ κ S cs sl Q pc lv st := h ▸ k
theorem z_V {Z : Hz} {V V' : Hv} (h : V = V') (k : zX Γ κ (Z, V') cs sl Q pc lv st) : zX Γ κ (Z, V) cs sl Q pc lv st := h ▸ k
end TOP
/-- a Whole at o, its limbs at g -/
def wh (Z : Hz) (o g : Nat) : Prop := zIn Z o 7 ∧ zR Z 7 0 o = some g ∧ zIn Z g 11 ∧ zn Z g = 16
theorem wh.fn {Z : Hz} {o g g' : Nat} (h : wh Z o g) (h' : wh Z o g') : g = g' := Option.some.inj (h.2.1.symm.trans h'.2.1)
def wInj (Z : Hz) : Prop := ∀ o o' g, wh Z o g → wh Z o' g → o = o'
/-- what a Whole holds: its limbs make x, its length is x's -/
def vv (V : Hv) (o g x : Nat) : Prop := vl (vA V g) 16 = x ∧ vI V 7 1 o = nI (nl x)
/-- all Wholes hold what val says -/
def CV (Z : Hz) (V : Hv) (val : Nat → Nat) : Prop := ∀ o g, wh Z o g → vv V o g (val o)
/-- only the Whole o has changed -/
def oW (V V' : Hv) (o g : Nat) : Prop := (∀ ci k a, ¬ (ci = 7 ∧ k = 1 ∧ a = o) → vI V' ci k a = vI V ci k a) ∧ (∀ a, a ≠ g → vA V' a = vA V a) ∧ vJ V' = vJ V
/-- nothing but Wholes has changed -/
def eN (Z : Hz) (V V' : Hv) : Prop := (∀ ci k a, ¬ (ci = 7 ∧ k = 1) → vI V' ci k a = vI V ci k a) ∧ (∀ a, (∀ o, ¬ wh Z o a) → vA V' a = vA V a) ∧ vJ V' = vJ V
theorem eN.refl (Z : Hz) (V : Hv) : eN Z V V := ⟨fun _ _ _ _ => rfl, fun _ _ => rfl, rfl⟩
theorem eN.trans {Z : Hz} {V V1 V2 : Hv} (h1 : eN Z V V1) (h2 : eN Z V1 V2) : eN Z V V2 := ⟨fun ci k a h => (h2.1 ci k a h).trans (h1.1 ci k a h), fun a h => (h2.2.1 a h).trans (h1.2.1 a h), h2.2.2.trans h1.2.2⟩
theorem oW.mk (V : Hv) (o g : Nat) (f : Nat → Int32) (x : Int32) : oW V (sI (sA V g f) 7 1 o x) o g := ⟨fun ci k a h => vI_sI_ne _ x h, fun a h => vA_sA_ne V f h, rfl⟩
theorem oW.mkA (V : Hv) (o g : Nat) (f : Nat → Int32) : oW V (sA V g f) o g := ⟨fun _ _ _ _ => rfl, fun a h => vA_sA_ne V f h, rfl⟩
theorem oW.mkI (V : Hv) (o g : Nat) (x : Int32) : oW V (sI V 7 1 o x) o g := ⟨fun ci k a h => vI_sI_ne _ x h, fun a _ => rfl, rfl⟩
theorem oW.trans {V V1 V2 : Hv} {o g : Nat} (h1 : oW V V1 o g) (h2 : oW V1 V2 o g) : oW V V2 o g := ⟨fun ci k a h => (h2.1 ci k a h).trans (h1.1 ci k a h), fun a h => (h2.2.1 a h).trans (h1.2.1 a h), h2.2.2.trans h1.2.2⟩
theorem CV.up {Z : Hz} {V V' : Hv} {val : Nat → Nat} {o g x : Nat} (h : CV Z V val) (hJ : wInj Z) (ho : wh Z o g) (hw : oW V V' o g) (hv : vv V' o g x) : CV Z V' (va_up val o x) ∧ eN Z V V' := by
  refine ⟨fun o' g' h' => ?_, ⟨fun ci k a hn => hw.1 ci k a (fun z => hn ⟨z.1, z.2.1⟩), fun a ha => hw.2.1 a (fun z => ha o (z ▸ ho)), hw.2.2⟩⟩
  by_cases e : o' = o
  · subst e
    rw [h'.fn ho]
    simpa [va_up] using hv
  · have hg : g' ≠ g := fun z => e (hJ o' o g (z ▸ h') ho)
    have := h o' g' h'
    simp only [va_up, if_neg e]
    exact ⟨by rw [hw.2.1 g' hg]; exact this.1, by rw [hw.1 7 1 o' (fun z => e z.2.2)]; exact this.2⟩
/-- what a method that changes the Whole o to x leaves -/
def qW (Z : Hz) (V : Hv) (val : Nat → Nat) (o x : Nat) : Hs → Prop := fun S' => ∃ V', S' = (Z, V') ∧ CV Z V' (va_up val o x) ∧ eN Z V V'
/-- what a method that changes nothing leaves -/
def q0 {α : Type} (Z : Hz) (V : Hv) (x : α) : α → Hs → Prop := fun r S' => r = x ∧ S' = (Z, V)
theorem vv.lt {V : Hv} {o g x : Nat} (h : vv V o g x) : x < 4294967296 ^ 16 := h.1 ▸ vl_lt _ 16
theorem vv.len {V : Hv} {o g x : Nat} (h : vv V o g x) : nl x ≤ 16 := nl_16 h.lt
theorem vv.limb {V : Hv} {o g x i : Nat} (h : vv V o g x) (hi : i < 16) : vA V g i = nI (x / 4294967296 ^ i % 4294967296) := by
  rw [← nI_uu (vA V g i), vl_digit _ hi, h.1]
theorem vv.hi {V : Hv} {o g x : Nat} (h : vv V o g x) : ∀ i, nl x ≤ i → i < 16 → vA V g i = 0 := vl_hi h.len (by rw [h.1]; exact lt_pow_nl x)
/-- places in the limbs -/
theorem in16 {Z : Hz} {o g : Nat} (h : wh Z o g) {i : Nat} (hi : i < 16) : vp_in (nI i) (zn Z g) := by rw [h.2.2.2]; exact vp_in_nI hi (by decide)
theorem cl16 {i : Nat} (hi : i < 16) : (nI i).toNatClampNeg = i := nI_clamp (by omega)
theorem sI_id {V : Hv} {ci k a : Nat} {x : Int32} (h : vI V ci k a = x) : sI V ci k a x = V := by
  have : (fun c j b => if c = ci ∧ j = k ∧ b = a then x else V.1 c j b) = V.1 := by
    funext c j b
    by_cases hh : c = ci ∧ j = k ∧ b = a
    · obtain ⟨rfl, rfl, rfl⟩ := hh
      simp only [and_self, if_true]
      exact h.symm
    · simp only [if_neg hh]
  simp only [sI, this]
theorem nI_ne0' {n : Nat} (h : n < 4294967296) : nI n = 0 ↔ n = 0 := nI_inj32 (b := 0) h (by decide)
theorem nI_le0 {n : Nat} (h : n < 2147483648) : nI n ≤ 0 ↔ n = 0 := by
  have := nI_leI (a := n) (b := 0) h (by decide)
  rw [nI_0] at this
  rw [this]
  omega
theorem nI_lt0 {n : Nat} (h : n < 2147483648) : ¬ nI n < 0 := nI_pos h
/-- a digit is 0 above all -/
theorem dig_lt {x L : Nat} (h : x < 4294967296 ^ (L + 1)) : x / 4294967296 ^ L % 4294967296 = x / 4294967296 ^ L := by
  apply Nat.mod_eq_of_lt
  rw [Nat.div_lt_iff_lt_mul (BBpos L), Nat.mul_comm, ← Nat.pow_succ]
  exact h
theorem dig_0 {x L : Nat} (h : x < 4294967296 ^ (L + 1)) : x / 4294967296 ^ L % 4294967296 = 0 ↔ x < 4294967296 ^ L := by
  rw [dig_lt h, Nat.div_eq_zero_iff]
  have := BBpos L
  omega
