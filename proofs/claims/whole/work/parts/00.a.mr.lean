/-! ===== primes: what the class reckons, what it should say (pure) ===== -/
/-- the laws of the throws (part 140) stand in the rest of the library: named here first, so that every part is read over the whole of it from the first round on -/
theorem lb_thr : True := by
  have _h := @Jvm.Stand.thenCaughtThrough
  exact trivial
def tzF : Nat → Nat → Nat
  | 0, _ => 0
  | f + 1, t => if t % 2 = 0 then tzF f (t / 2) + 1 else 0
/-- the test of Miller and Rabin, by a base a -/
def mrL (p : Nat) : Nat → Nat → Bool
  | 0, _ => false
  | d + 1, x => if x * x % p = p - 1 then true else mrL p d (x * x % p)
def mrB (p a : Nat) : Bool := if a ^ ((p - 1) / 2 ^ tzF 31 (p - 1)) % p = 1 ∨ a ^ ((p - 1) / 2 ^ tzF 31 (p - 1)) % p = p - 1 then true else mrL p (tzF 31 (p - 1) - 1) (a ^ ((p - 1) / 2 ^ tzF 31 (p - 1)) % p)
def wt (j : Nat) : Nat := if j = 0 then 2 else if j = 1 then 3 else if j = 2 then 5 else 7
def pr2 (p : Nat) : Nat → Nat → Bool
  | 0, _ => true
  | d + 1, i => if mrB p (wt i) = true then pr2 p d (i + 1) else false
def pr1 (p : Nat) : Nat → Nat → Bool
  | 0, _ => pr2 p 4 0
  | d + 1, i => if p % wt i = 0 then decide (p = wt i) else pr1 p d (i + 1)
/-- isPrime, as the class reckons it -/
def isPrB (p : Nat) : Bool := if p < 2 then false else pr1 p 4 0
/-- no d from 2 on whose square is not above p divides it -/
def tpr (p : Nat) : Prop := 2 ≤ p ∧ ∀ d, 2 ≤ d → d * d ≤ p → p % d ≠ 0
/-- the class's test and the model's agree -/
def prOk : Prop := ∀ p, p < 2147483648 → (isPrB p = true ↔ tpr p)
