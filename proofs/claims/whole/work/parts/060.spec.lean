/-! ===== rows of equations, told: elimination, answers, determinants ===== -/
abbrev Mx : Type := Nat → Nat → Fr
def up2 (M : Mx) (p k : Nat) (x : Fr) : Mx := fun i j => if i = p ∧ j = k then x else M i j
def swp {α : Type} (f : Nat → α) (a b : Nat) : Nat → α := fun i => if i = a then f b else if i = b then f a else f i
abbrev f0 : Fr := (false, 0, 1)
abbrev fsz (x : Fr) : Nat := bl x.2.1 + bl x.2.2
theorem up2_self (M : Mx) (p k : Nat) (x : Fr) : up2 M p k x p k = x := by simp [up2]
theorem up2_ne (M : Mx) {p k i j : Nat} (x : Fr) (h : ¬ (i = p ∧ j = k)) : up2 M p k x i j = M i j := by simp [up2, h]
theorem up2_row (M : Mx) {p k i : Nat} (x : Fr) (h : i ≠ p) : up2 M p k x i = M i := by funext j; simp [up2, h]
theorem swp_id {α : Type} (f : Nat → α) (a : Nat) : swp f a a = f := by
  funext i
  by_cases h : i = a
  · subst h; simp [swp]
  · simp [swp, h]
/-- the next PIVOT's place, from p on -/
def pick (M : Mx) (way j p : Nat) (b : Option Nat) : Option Nat := match b with
  | none => some p
  | some c => if way = 1 ∧ fsz (M p j) < fsz (M c j) then some p else some c
def chz (M : Mx) (way j : Nat) : Nat → Nat → Option Nat → Option Nat
  | 0, _, b => b
  | d + 1, p, b => chz M way j d (p + 1) (if (M p j).2.1 = 0 then b else pick M way j p b)
def clrK (f : Fr) (t p : Nat) : Nat → Nat → Mx → Option Mx
  | 0, _, M => some M
  | d + 1, k, M => if wideB (fmul f (M t k) false) = true then (if wideB (fadd (M p k) (fmul f (M t k) false) true) = true then clrK f t p d (k + 1) (up2 M p k (fadd (M p k) (fmul f (M t k) false) true)) else none) else none
def clrR (M : Mx) (t p j e : Nat) : Option Mx := if wideB (fmul (M p j) (M t j) true) = true then (clrK (fmul (M p j) (M t j) true) t p (e - (j + 1)) (j + 1) M).map (fun M' => up2 M' p j f0) else none
def clrA (t j e : Nat) : Nat → Nat → Mx → Option Mx
  | 0, _, M => some M
  | d + 1, p, M => if (M p j).2.1 = 0 then clrA t j e d (p + 1) M else match clrR M t p j e with
    | none => none
    | some M' => clrA t j e d (p + 1) M'
/-- rows by places, the row's number at a place, how many PIVOTS, their columns, their sizes, turned -/
abbrev El : Type := Mx × (Nat → Nat) × Nat × (Nat → Nat) × (Nat → Nat) × Bool
def elJ (way n e : Nat) : Nat → Nat → El → Option El
  | 0, _, s => some s
  | d + 1, j, s => match chz s.1 way j (n - s.2.2.1) s.2.2.1 none with
    | none => elJ way n e d (j + 1) s
    | some c => match clrA s.2.2.1 j e (n - (s.2.2.1 + 1)) (s.2.2.1 + 1) (swp s.1 c s.2.2.1) with
      | none => none
      | some M2 => elJ way n e d (j + 1) (M2, swp s.2.1 c s.2.2.1, s.2.2.1 + 1, va_up s.2.2.2.1 s.2.2.1 j, va_up s.2.2.2.2.1 s.2.2.1 (fsz (s.1 c j)), if c = s.2.2.1 then s.2.2.2.2.2 else !s.2.2.2.2.2)
def elim (way n e : Nat) (M : Mx) : Option El := elJ way n e n 0 (M, fun i => i, 0, fun _ => 0, fun _ => 0, false)
theorem chz_some {M : Mx} {way j : Nat} : ∀ (d p : Nat) (b : Option Nat) (c : Nat), chz M way j d p b = some c → b = some c ∨ (p ≤ c ∧ c < p + d ∧ (M c j).2.1 ≠ 0)
  | 0, p, b, c, h => Or.inl h
  | d + 1, p, b, c, h => by
    rcases chz_some d (p + 1) _ c h with h1 | ⟨h1, h2, h3⟩
    · by_cases hz : (M p j).2.1 = 0
      · rw [if_pos hz] at h1; exact Or.inl h1
      · rw [if_neg hz] at h1
        cases b with
        | none => simp [pick] at h1; subst h1; exact Or.inr ⟨Nat.le_refl _, by omega, hz⟩
        | some c' =>
          simp only [pick] at h1
          split at h1
          · simp at h1; subst h1; exact Or.inr ⟨Nat.le_refl _, by omega, hz⟩
          · exact Or.inl h1
    · exact Or.inr ⟨by omega, by omega, h3⟩
/-- by the first way what is found stays -/
theorem chz_stay {M : Mx} {way j : Nat} (hw : way ≠ 1) : ∀ (d p c : Nat), chz M way j d p (some c) = some c
  | 0, _, _ => rfl
  | d + 1, p, c => by
    show chz M way j d (p + 1) _ = some c
    have : (if (M p j).2.1 = 0 then some c else pick M way j p (some c)) = some c := by
      split
      · rfl
      · simp only [pick]; rw [if_neg (fun z => hw z.1)]
    exact (congrArg _ this).trans (chz_stay hw d (p + 1) c)
theorem clrK_row {f : Fr} {t p : Nat} : ∀ (d k : Nat) (M M' : Mx), clrK f t p d k M = some M' → ∀ i, i ≠ p → M' i = M i
  | 0, _, M, M', h, i, hi => by cases h; rfl
  | d + 1, k, M, M', h, i, hi => by
    simp only [clrK] at h
    split at h
    · split at h
      · rw [clrK_row d (k + 1) _ M' h i hi, up2_row _ _ hi]
      · cases h
    · cases h
theorem clrR_row {M M' : Mx} {t p j e : Nat} (h : clrR M t p j e = some M') : ∀ i, i ≠ p → M' i = M i := by
  intro i hi
  unfold clrR at h
  split at h
  · rw [Option.map_eq_some_iff] at h
    obtain ⟨M1, h1, rfl⟩ := h
    rw [up2_row _ _ hi, clrK_row _ _ _ _ h1 i hi]
  · cases h
theorem clrA_row {t j e : Nat} : ∀ (d p : Nat) (M M' : Mx), clrA t j e d p M = some M' → ∀ i, i < p → M' i = M i
  | 0, _, M, M', h, i, hi => by cases h; rfl
  | d + 1, p, M, M', h, i, hi => by
    simp only [clrA] at h
    split at h
    · exact clrA_row d (p + 1) M M' h i (by omega)
    · split at h
      · cases h
      · rename_i M1 h1
        rw [clrA_row d (p + 1) M1 M' h i (by omega), clrR_row h1 i (by omega)]
/-- no row at p or behind has a RIGHT side that is not 0 -/
def hasA (M : Mx) (n : Nat) : Nat → Nat → Bool
  | 0, _ => true
  | d + 1, p => if (M p n).2.1 = 0 then hasA M n d (p + 1) else false
def fuK (M : Mx) (U : Nat → Fr) (p : Nat) : Nat → Nat → Fr → Option Fr
  | 0, _, x => some x
  | d + 1, k, x => if wideB (fmul (M p k) (U k) false) = true then (if wideB (fadd x (fmul (M p k) (U k) false) true) = true then fuK M U p d (k + 1) (fadd x (fmul (M p k) (U k) false) true) else none) else none
def fuT (M : Mx) (cc : Nat → Nat) (n : Nat) : Nat → (Nat → Fr) → Option (Nat → Fr)
  | 0, U => some U
  | t + 1, U => match fuK M U t (n - (cc t + 1)) (cc t + 1) (M t n) with
    | none => none
    | some x => if wideB (fmul x (M t (cc t)) true) = true then fuT M cc n t (va_up U (cc t) (fmul x (M t (cc t)) true)) else none
/-- a row's sum, as holds() adds it up -/
def sumR (R : Nat → Fr) (U : Nat → Fr) : Nat → Nat → Fr → Option Fr
  | 0, _, x => some x
  | d + 1, k, x => if wideB (fmul (R k) (U k) false) = true then (if wideB (fadd x (fmul (R k) (U k) false) false) = true then sumR R U d (k + 1) (fadd x (fmul (R k) (U k) false) false) else none) else none
