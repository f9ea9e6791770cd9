/-! ===== what the calls do, told ===== -/
/-- how many NUMBERS, the NUMBERS, the ROWS, what is SOLVED, J and M and how many primes, how often something GREW, THE TEXT -/
abbrev St : Type := Nat × (Nat → Fr) × Mx × Option Sv × (Nat × Nat × Int32) × Int32 × List Nat
abbrev tc (s : St) : Nat := s.1
abbrev tn (s : St) : Nat → Fr := s.2.1
abbrev tm (s : St) : Mx := s.2.2.1
abbrev tv (s : St) : Option Sv := s.2.2.2.1
abbrev tj (s : St) : Nat × Nat × Int32 := s.2.2.2.2.1
abbrev tg (s : St) : Int32 := s.2.2.2.2.2.1
abbrev tt (s : St) : List Nat := s.2.2.2.2.2.2
def St0 : St := (0, fun _ => f0, fun _ _ => f0, none, (0, 1, 0), 0, [])
abbrev wM (s : St) (M : Mx) : St := (s.1, s.2.1, M, s.2.2.2)
abbrev wV (s : St) (v : Option Sv) : St := (s.1, s.2.1, s.2.2.1, v, s.2.2.2.2)
abbrev wJ (s : St) (j : Nat × Nat × Int32) : St := (s.1, s.2.1, s.2.2.1, s.2.2.2.1, j, s.2.2.2.2.2)
abbrev wT (s : St) (l : List Nat) : St := (s.1, s.2.1, s.2.2.1, s.2.2.2.1, s.2.2.2.2.1, s.2.2.2.2.2.1, l)
abbrev an (x : Int32) : Nat := x.toNatClampNeg
/-- x is in lo .. hi - 1 -/
def inI (x : Int32) (n : Nat) : Bool := decide (0 ≤ x) && decide (x < nI n)
def isN (s : St) (a : Int32) : Bool := inI a (tc s)
def isE (n : Nat) (i j : Int32) : Bool := inI i n && inI j (n + 1)
def full (s : St) : Bool := decide (40 ≤ tc s)
def keepF (s : St) (x : Fr) : St × Int32 := ((tc s + 1, va_up (tn s) (tc s) x, s.2.2), nI (tc s))
def grewF (s : St) : St × Int32 := ((s.1, s.2.1, s.2.2.1, s.2.2.2.1, s.2.2.2.2.1, tg s + 1, s.2.2.2.2.2.2), -3)
def keepO (s : St) (o : Option Fr) : St × Int32 := match o with
  | none => grewF s
  | some x => keepF s x
def keepC (s : St) (x : Fr) : St × Int32 := if full s = true then (s, -4) else keepF s x
def wO (x : Fr) : Option Fr := if wideB x = true then some x else none
def opValue (s : St) (u v : Int64) : St × Int32 := if v = 0 then (s, -2) else keepC s (fratio u v)
def opF (op : Int32) (x y : Fr) : Fr := if op < 2 then fadd x y (decide (op = 1)) else fmul x y (decide (op = 3))
def opAct (s : St) (op a b : Int32) : St × Int32 := if (decide (op < 0) || decide (3 < op) || !isN s a || !isN s b) = true then (s, -1) else if full s = true then (s, -4) else if op = 3 ∧ (tn s (an b)).2.1 = 0 then (s, -2) else keepO s (wO (opF op (tn s (an a)) (tn s (an b))))
/-- none: it throws -/
def opQuo (s : St) (a b : Int32) : St × Option Int32 := if (!isN s a || !isN s b) = true then (s, some (-1)) else if full s = true then (s, some (-4)) else if (tn s (an b)).2.1 = 0 then (s, none) else ((keepO s (wO (fmul (tn s (an a)) (tn s (an b)) true))).1, some (keepO s (wO (fmul (tn s (an a)) (tn s (an b)) true))).2)
def opDrop (s : St) : St × Int32 := if tc s = 0 then (s, -5) else ((tc s - 1, s.2), nI (tc s - 1))
def opCmp (s : St) (a b : Int32) : Int32 := if (!isN s a || !isN s b) = true then -2 else fcmp (tn s (an a)) (tn s (an b))
def opAbout (s : St) (a what : Int32) : Int32 := if isN s a = true then (if what = 0 then zb (tn s (an a)).1 else if what = 1 then nI (nl (tn s (an a)).2.1) else if what = 2 then nI (nl (tn s (an a)).2.2) else if what = 3 then nI (fsz (tn s (an a))) else -1) else -1
def opLimb (s : St) (a part k : Int32) : Option Int32 := if isN s a = true ∧ (part = 0 ∨ part = 1) ∧ inI k (nl (if part = 0 then (tn s (an a)).2.1 else (tn s (an a)).2.2)) = true then some (nI ((if part = 0 then (tn s (an a)).2.1 else (tn s (an a)).2.2) / 4294967296 ^ an k % 4294967296)) else none
def opEntry (n : Nat) (s : St) (i j : Int32) (u v : Int64) : St × Int32 := if isE n i j = true then (if v = 0 then (s, -2) else (wM s (up2 (tm s) (an i) (an j) (fratio u v)), 1)) else (s, -1)
def opPut (n : Nat) (s : St) (i j a : Int32) : St × Int32 := if (isE n i j && isN s a) = true then (wM s (up2 (tm s) (an i) (an j) (tn s (an a))), 1) else (s, -1)
def opTake (n : Nat) (s : St) (i j : Int32) : St × Int32 := if isE n i j = true then keepC s (tm s (an i) (an j)) else (s, -1)
def opSolve (n : Nat) (s : St) (way : Int32) : St × Int32 := if way = 0 ∨ way = 1 then (match (elim (an way) n (n + 1) (tm s)).bind (solS n) with
    | none => grewF (wV s none)
    | some v => (wV s (some v), nI v.2.1)) else (s, -1)
def opAns (n : Nat) (s : St) : Int32 := match tv s with
  | none => -5
  | some v => if v.1 = true then (if v.2.1 = n then 1 else 2) else 0
def opUnk (n : Nat) (s : St) (j : Int32) : St × Int32 := if svT (tv s) = true then (if inI j n = true then (match tv s with
      | none => (s, -5)
      | some v => keepC s (v.2.2.2.2.2 (an j))) else (s, -1)) else (s, -5)
def opPiv (s : St) (k what : Int32) : Int32 := match tv s with
  | none => -5
  | some v => if inI k v.2.1 = true then (if what = 0 then nI (v.2.2.1 (an k)) else if what = 1 then nI (v.2.2.2.1 (an k)) else if what = 2 then nI (v.2.2.2.2.1 (an k)) else -1) else -1
def opHolds (n : Nat) (s : St) (i : Int32) : St × Int32 := if svT (tv s) = true then (if inI i n = true then (match tv s with
      | none => (s, -5)
      | some v => match sumR (tm s (an i)) v.2.2.2.2.2 n 0 f0 with
        | none => grewF s
        | some x => (s, if fcmp x (tm s (an i) n) = 0 then 1 else 0)) else (s, -1)) else (s, -5)
def opDet (n : Nat) (s : St) (way : Int32) : St × Int32 := if inI way 3 = true then (if full s = true then (s, -4) else keepO s (if way = 2 then detO n (tm s) else (elim (an way) n n (tm s)).bind (detP n))) else (s, -1)
def restF (x : Fr) (p : Nat) : Nat := x.2.1 % p * ((x.2.2 % p) ^ (p - 2) % p) % p
def opRest (s : St) (a p : Int32) : Int32 := if (isN s a && isPrB (an p)) = true then (if (tn s (an a)).2.2 % an p = 0 then -2 else if (tn s (an a)).1 = true ∧ restF (tn s (an a)) (an p) ≠ 0 then nI (an p - restF (tn s (an a)) (an p)) else nI (restF (tn s (an a)) (an p))) else -1
def opMeet (s : St) (p r : Int32) : St × Int32 := if (isPrB (an p) && inI r (an p)) = true then (if (tj s).2.1 % an p = 0 then (s, -5) else if (tj s).2.1 * an p < 4294967296 ^ 6 then (wJ s ((tj s).1 + (tj s).2.1 * jnK (tj s).1 (tj s).2.1 (an p) (an r), (tj s).2.1 * an p, (tj s).2.2 + 1), (tj s).2.2 + 1) else grewF s) else (s, -1)
def opJoined (s : St) (what : Int32) : St × Int32 := if what = 0 ∨ what = 1 then keepC s (false, if what = 0 then (tj s).1 else (tj s).2.1, 1) else (s, -1)
def opRec (s : St) : St × Int32 := if full s = true then (s, -4) else match recF (tj s).1 (tj s).2.1 with
  | none => (s, -6)
  | some x => keepF s x
def opPart (s : St) : St × Int32 := (wJ s (0, 1, 0), (tj s).2.2)
def opDec (s : St) (a dg : Int32) (up : Bool) : St × Int32 := if (isN s a && inI dg 31) = true then (wT s (decB (tn s (an a)) (an dg) up), nI (decB (tn s (an a)) (an dg) up).length) else (s, -1)
def opSign (s : St) (i : Int32) : Int32 := if inI i (tt s).length = true then nI ((tt s).getD ((tt s).length - 1 - an i) 0) else -1
def opCount (n : Nat) (s : St) (what : Int32) : Int32 := if what = 0 then nI (tc s) else if what = 1 then (tj s).2.2 else if what = 2 then nI n else if what = 3 then tg s else -1
def opClear (s : St) : St × Int32 := ((0, s.2.1, fun _ _ => f0, none, (0, 1, 0), s.2.2.2.2.2), nI (tc s))
theorem inI_t {x : Int32} {n : Nat} (h : inI x n = true) (hn : n < 2147483648) : ∃ j, j < n ∧ x = nI j ∧ an x = j := by
  simp only [inI, Bool.and_eq_true, decide_eq_true_eq] at h
  obtain ⟨j, hj, rfl⟩ := nI_of (x := x) (fun z => by have h1 := Int32.lt_iff_toInt_lt.mp z; have h2 := Int32.le_iff_toInt_le.mp h.1; omega)
  exact ⟨j, (nI_ltI hj hn).mp h.2, rfl, nI_clamp hj⟩
theorem inI_f {x : Int32} {n : Nat} (h : x < 0 ∨ nI n ≤ x) : inI x n = false := by
  simp only [inI, Bool.and_eq_false_iff, decide_eq_false_iff_not]
  rcases h with h | h
  · left; intro z; have h1 := Int32.lt_iff_toInt_lt.mp h; have h2 := Int32.le_iff_toInt_le.mp z; omega
  · right; intro z; have h1 := Int32.lt_iff_toInt_lt.mp z; have h2 := Int32.le_iff_toInt_le.mp h; omega
theorem inI_of {x : Int32} {n : Nat} (h1 : ¬ x < 0) (h2 : ¬ nI n ≤ x) : inI x n = true := by
  simp only [inI, Bool.and_eq_true, decide_eq_true_eq]
  exact ⟨Int32.le_iff_toInt_le.mpr (by have := mt Int32.lt_iff_toInt_lt.mpr h1; have e : (0 : Int32).toInt = 0 := rfl; omega), Int32.lt_iff_toInt_lt.mpr (by have := mt Int32.le_iff_toInt_le.mpr h2; omega)⟩
theorem inI_nI {j n : Nat} (h : j < n) (hn : n < 2147483648) : inI (nI j) n = true := inI_of (nI_pos (by omega)) (fun z => by have := (nI_leI (by omega) (by omega)).mp z; omega)
