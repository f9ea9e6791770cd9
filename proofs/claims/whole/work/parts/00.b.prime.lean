/-! ===== primes: Euclid, Fermat, Miller and Rabin ===== -/
def pri (p : Nat) : Prop := 2 ≤ p ∧ ∀ d, d ∣ p → d = 1 ∨ d = p
theorem pri_tpr {p : Nat} : pri p ↔ tpr p := by
  constructor
  · rintro ⟨h2, h⟩
    refine ⟨h2, fun d hd hdd hm => ?_⟩
    rcases h d (Nat.dvd_of_mod_eq_zero hm) with e | e
    · omega
    · subst e
      have : d * 2 ≤ d * d := Nat.mul_le_mul_left d hd
      omega
  · rintro ⟨h2, h⟩
    refine ⟨h2, fun d ⟨e, he⟩ => ?_⟩
    have hd0 : d ≠ 0 := fun z => by rw [z] at he; omega
    have he0 : e ≠ 0 := fun z => by rw [z] at he; omega
    by_cases h1 : d = 1
    · exact Or.inl h1
    by_cases h3 : e = 1
    · right; rw [h3, Nat.mul_one] at he; exact he.symm
    exfalso
    rcases Nat.le_total d e with hle | hle
    · refine h d (by omega) (by rw [he]; exact Nat.mul_le_mul_left d hle) ?_
      rw [he]; exact Nat.mul_mod_right d e
    · refine h e (by omega) (by rw [he]; exact Nat.mul_le_mul_right e hle) ?_
      rw [he]; exact Nat.mul_mod_left d e
theorem pri.cop {q a : Nat} (h : pri q) (ha : ¬ q ∣ a) : Nat.Coprime q a := by
  rcases h.2 (Nat.gcd q a) (Nat.gcd_dvd_left q a) with e | e
  · exact e
  · exact absurd (e ▸ Nat.gcd_dvd_right q a) ha
theorem pri.mul {q a b : Nat} (h : pri q) (hd : q ∣ a * b) : q ∣ a ∨ q ∣ b := by
  by_cases ha : q ∣ a
  · exact Or.inl ha
  · exact Or.inr ((h.cop ha).dvd_of_dvd_mul_left hd)
theorem pri.pow {q a : Nat} (h : pri q) : ∀ k, q ∣ a ^ k → q ∣ a
  | 0, hd => by
    rw [Nat.pow_zero] at hd
    have := Nat.le_of_dvd (by decide) hd
    have := h.1
    omega
  | k + 1, hd => by
    rw [Nat.pow_succ] at hd
    rcases h.mul hd with z | z
    · exact h.pow k z
    · exact z
theorem pri.eq {q r : Nat} (hq : pri q) (hr : pri r) (h : r ∣ q) : r = q := (hq.2 r h).resolve_left (fun e => by have := hr.1; omega)
theorem pri.nd {q a : Nat} (h : 0 < a) (ha : a < q) : ¬ q ∣ a := fun z => by have := Nat.le_of_dvd h z; omega
/-- a largest prime factor -/
theorem big_pri : ∀ n, 2 ≤ n → ∃ q m, pri q ∧ n = q * m ∧ ∀ r, pri r → r ∣ m → r ≤ q := by
  intro n
  induction n using Nat.strongRecOn with
  | ind n ih =>
    intro h2
    by_cases hp : pri n
    · exact ⟨n, 1, hp, (Nat.mul_one n).symm, fun r hr hd => by have := Nat.le_of_dvd (by decide) hd; omega⟩
    · have hex : ∃ d, d ∣ n ∧ ¬ (d = 1 ∨ d = n) := Classical.byContradiction (fun hh => hp ⟨h2, fun d hd => Classical.byContradiction (fun h9 => hh ⟨d, hd, h9⟩)⟩)
      obtain ⟨d, ⟨e, he⟩, hne⟩ := hex
      have hd0 : d ≠ 0 := fun z => by rw [z] at he; omega
      have he0 : e ≠ 0 := fun z => by rw [z] at he; omega
      have hd1 : d ≠ 1 := fun z => hne (Or.inl z)
      have he1 : e ≠ 1 := fun z => hne (Or.inr (by rw [z, Nat.mul_one] at he; exact he.symm))
      have hdn : d < n := by
        have : d * 2 ≤ d * e := Nat.mul_le_mul_left d (by omega)
        omega
      have hen : e < n := by
        have : 2 * e ≤ d * e := Nat.mul_le_mul_right e (by omega)
        omega
      obtain ⟨q1, m1, p1, e1, b1⟩ := ih d hdn (by omega)
      obtain ⟨q2, m2, p2, e2, b2⟩ := ih e hen (by omega)
      rcases Nat.le_total q2 q1 with hle | hle
      · refine ⟨q1, m1 * e, p1, by rw [he, e1, Nat.mul_assoc], fun r hr hd => ?_⟩
        rcases hr.mul hd with z | z
        · exact b1 r hr z
        · rw [e2] at z
          rcases hr.mul z with z | z
          · rw [p2.eq hr z]; exact hle
          · exact Nat.le_trans (b2 r hr z) hle
      · refine ⟨q2, d * m2, p2, by rw [he, e2, ← Nat.mul_assoc, ← Nat.mul_assoc, Nat.mul_comm q2 d], fun r hr hd => ?_⟩
        rcases hr.mul hd with z | z
        · rw [e1] at z
          rcases hr.mul z with z | z
          · rw [p1.eq hr z]; exact hle
          · exact Nat.le_trans (b1 r hr z) hle
        · exact b2 r hr z
theorem has_pri {n : Nat} (h : 2 ≤ n) : ∃ q, pri q ∧ q ∣ n := by
  obtain ⟨q, m, hq, e, -⟩ := big_pri n h
  exact ⟨q, hq, m, e⟩
/-! binomials -/
def bc : Nat → Nat → Nat
  | _, 0 => 1
  | 0, _ + 1 => 0
  | n + 1, k + 1 => bc n k + bc n (k + 1)
theorem bc_n0 (n : Nat) : bc n 0 = 1 := by cases n <;> rfl
theorem bc_ss (n k : Nat) : bc (n + 1) (k + 1) = bc n k + bc n (k + 1) := rfl
theorem bc_gt : ∀ n k, n < k → bc n k = 0
  | 0, k + 1, _ => rfl
  | n + 1, k + 1, h => by rw [bc_ss, bc_gt n k (by omega), bc_gt n (k + 1) (by omega)]
theorem bc_nn : ∀ n, bc n n = 1
  | 0 => rfl
  | n + 1 => by rw [bc_ss, bc_nn n, bc_gt n (n + 1) (by omega)]
theorem bc_mul : ∀ n k, (k + 1) * bc (n + 1) (k + 1) = (n + 1) * bc n k
  | 0, 0 => rfl
  | 0, k + 1 => by rw [bc_ss, bc_gt 0 (k + 1) (by omega), bc_gt 0 (k + 1 + 1) (by omega)]; omega
  | n + 1, 0 => by
    have := bc_mul n 0
    rw [bc_n0] at this
    rw [bc_ss, bc_n0]
    omega
  | n + 1, k + 1 => by
    have h1 := bc_mul n k
    have h2 := bc_mul n (k + 1)
    have e : (k + 1 + 1) * bc (n + 1) (k + 1) = (k + 1) * bc (n + 1) (k + 1) + bc (n + 1) (k + 1) := Nat.succ_mul _ _
    rw [bc_ss (n + 1) (k + 1), Nat.mul_add, e, h1, h2, Nat.succ_mul (n + 1), bc_ss n k, Nat.mul_add]
    omega
def bs (a n : Nat) : Nat → Nat
  | 0 => 0
  | k + 1 => bs a n k + bc n k * a ^ k
theorem bs_step (a n : Nat) : ∀ k, bs a (n + 1) (k + 1) = bs a n (k + 1) + a * bs a n k
  | 0 => by simp [bs, bc_n0]
  | k + 1 => by
    show bs a (n + 1) (k + 1) + bc (n + 1) (k + 1) * a ^ (k + 1) = bs a n (k + 1) + bc n (k + 1) * a ^ (k + 1) + a * (bs a n k + bc n k * a ^ k)
    rw [bs_step a n k, bc_ss, Nat.add_mul, Nat.mul_add a, Nat.pow_succ, show a * (bc n k * a ^ k) = bc n k * (a ^ k * a) by rw [Nat.mul_comm a, Nat.mul_assoc]]
    omega
theorem bin (a : Nat) : ∀ n, (a + 1) ^ n = bs a n (n + 1)
  | 0 => by simp [bs, bc_n0]
  | n + 1 => by
    rw [Nat.pow_succ, bin a n, bs_step]
    have : bs a n (n + 1 + 1) = bs a n (n + 1) := by
      show bs a n (n + 1) + bc n (n + 1) * a ^ (n + 1) = _
      rw [bc_gt n (n + 1) (by omega), Nat.zero_mul, Nat.add_zero]
    rw [this, Nat.mul_add, Nat.mul_one, Nat.mul_comm (bs a n (n + 1)) a]
    omega
theorem pri_bc {q k : Nat} (h : pri q) (h1 : 0 < k) (h2 : k < q) : q ∣ bc q k := by
  obtain ⟨n, rfl⟩ : ∃ n, q = n + 1 := ⟨q - 1, by have := h.1; omega⟩
  obtain ⟨j, rfl⟩ : ∃ j, k = j + 1 := ⟨k - 1, by omega⟩
  have e := bc_mul n j
  rcases h.mul (show n + 1 ∣ (j + 1) * bc (n + 1) (j + 1) from ⟨_, e⟩) with z | z
  · exact absurd z (pri.nd h1 h2)
  · exact z
theorem pri_bs {q a : Nat} (h : pri q) : ∀ k, 1 ≤ k → k ≤ q → bs a q k % q = 1
  | 0, h1, _ => absurd h1 (by decide)
  | 1, _, _ => by
    show (0 + bc q 0 * a ^ 0) % q = 1
    rw [bc_n0]
    have := h.1
    exact Nat.mod_eq_of_lt (by simp; omega)
  | k + 1 + 1, _, h2 => by
    have ih := pri_bs h (a := a) (k + 1) (by omega) (by omega)
    show (bs a q (k + 1) + bc q (k + 1) * a ^ (k + 1)) % q = 1
    obtain ⟨c, hc⟩ := pri_bc h (k := k + 1) (by omega) (by omega)
    rw [hc, Nat.mul_assoc, Nat.add_mul_mod_self_left]
    exact ih
theorem pri.fer {q : Nat} (h : pri q) : ∀ a, a ^ q % q = a % q
  | 0 => by rw [Nat.zero_pow (by have := h.1; omega)]
  | a + 1 => by
    rw [bin]
    show (bs a q q + bc q q * a ^ q) % q = _
    rw [bc_nn, Nat.one_mul, Nat.add_mod, pri_bs h q (by have := h.1; omega) (Nat.le_refl q), h.fer a, ← Nat.add_mod_mod, Nat.mod_mod, Nat.add_mod_mod, Nat.add_comm]
theorem pri.can {q a x y : Nat} (h : pri q) (ha : ¬ q ∣ a) (e : a * x % q = a * y % q) : x % q = y % q := by
  have key : ∀ x y, y ≤ x → a * x % q = a * y % q → x % q = y % q := fun x y hle e => by
    have h1 := Nat.sub_mod_eq_zero_of_mod_eq e
    rw [← Nat.mul_sub] at h1
    obtain ⟨c, hc⟩ := (h.mul (Nat.dvd_of_mod_eq_zero h1)).resolve_left ha
    have : x = y + q * c := by omega
    rw [this, Nat.add_mul_mod_self_left]
  rcases Nat.le_total y x with z | z
  · exact key x y z e
  · exact (key y x z e.symm).symm
theorem pri.fermat {q a : Nat} (h : pri q) (ha : ¬ q ∣ a) : a ^ (q - 1) % q = 1 := by
  have h2 := h.1
  have e : a * a ^ (q - 1) % q = a * 1 % q := by
    rw [Nat.mul_comm, ← Nat.pow_succ, show (q - 1).succ = q by omega, h.fer, Nat.mul_one]
  rw [h.can ha e]
  exact Nat.mod_eq_of_lt (by omega)
/-! powers -/
theorem pw1 {a x n : Nat} (h : a ^ x % n = 1) (hn : 2 ≤ n) (k : Nat) : a ^ (x * k) % n = 1 := by
  rw [Nat.pow_mul, Nat.pow_mod, h, Nat.one_pow]
  exact Nat.mod_eq_of_lt (by omega)
theorem pw_rest {a x y n : Nat} (hn : 2 ≤ n) (hx : a ^ x % n = 1) (hy : a ^ (x + y) % n = 1) : a ^ y % n = 1 := by
  rw [Nat.pow_add, Nat.mul_mod, hx, Nat.one_mul, Nat.mod_mod] at hy
  exact hy
theorem pw_gcd {a n : Nat} (hn : 2 ≤ n) (x y : Nat) : a ^ x % n = 1 → a ^ y % n = 1 → a ^ Nat.gcd x y % n = 1 := by
  induction x, y using Nat.gcd.induction with
  | H0 y => intro _ h; rw [Nat.gcd_zero_left]; exact h
  | H1 x y hx ih =>
    intro h1 h2
    rw [Nat.gcd_rec]
    refine ih ?_ h1
    refine pw_rest hn (x := x * (y / x)) (pw1 h1 hn _) ?_
    rw [Nat.div_add_mod]
    exact h2
theorem sq_m1 {p : Nat} (h : 2 ≤ p) : (p - 1) * (p - 1) % p = 1 := by
  obtain ⟨k, rfl⟩ : ∃ k, p = k + 2 := ⟨p - 2, by omega⟩
  have e : (k + 2 - 1) * (k + 2 - 1) = 1 + (k + 2) * k := by
    show (k + 1) * (k + 1) = _
    rw [Nat.add_mul, Nat.mul_add, Nat.add_mul]
    omega
  rw [e, Nat.add_mul_mod_self_left]
  exact Nat.mod_eq_of_lt (by omega)
theorem mod1_dvd {a n q : Nat} (hq : 2 ≤ q) (h : q ∣ n) (e : a % n = 1) : a % q = 1 := by
  have : a % n % q = a % q := Nat.mod_mod_of_dvd a h
  rw [← this, e]
  exact Nat.mod_eq_of_lt (by omega)
/-! the test -/
theorem tzF_dvd : ∀ f t, 2 ^ tzF f t ∣ t
  | 0, t => by show 2 ^ 0 ∣ t; exact Nat.one_dvd t
  | f + 1, t => by
    show 2 ^ (if t % 2 = 0 then tzF f (t / 2) + 1 else 0) ∣ t
    by_cases h : t % 2 = 0
    · rw [if_pos h, Nat.pow_succ]
      obtain ⟨c, hc⟩ := tzF_dvd f (t / 2)
      refine ⟨c, ?_⟩
      have : t = t / 2 * 2 := by omega
      rw [Nat.mul_assoc, Nat.mul_comm 2 c, ← Nat.mul_assoc, ← hc]
      exact this
    · rw [if_neg h]; exact Nat.one_dvd t
theorem tzF_pos {f t : Nat} (h : t % 2 = 0) : 1 ≤ tzF (f + 1) t := by
  show 1 ≤ (if t % 2 = 0 then tzF f (t / 2) + 1 else 0)
  rw [if_pos h]
  omega
theorem mrL_t {p : Nat} : ∀ k x, mrL p k x = true → ∃ i, 1 ≤ i ∧ i ≤ k ∧ x ^ (2 ^ i) % p = p - 1
  | 0, x, h => by cases h
  | k + 1, x, h => by
    have h' : (if x * x % p = p - 1 then true else mrL p k (x * x % p)) = true := h
    by_cases c : x * x % p = p - 1
    · exact ⟨1, by omega, by omega, by rw [show (2 : Nat) ^ 1 = 2 from rfl, Nat.pow_two]; exact c⟩
    · rw [if_neg c] at h'
      obtain ⟨i, h1, h2, h3⟩ := mrL_t k _ h'
      refine ⟨i + 1, by omega, by omega, ?_⟩
      rw [Nat.pow_succ, Nat.mul_comm, Nat.pow_mul, Nat.pow_two, Nat.pow_mod]
      exact h3
theorem mrB_fermat {n a : Nat} (h2 : 3 ≤ n) (ho : n % 2 = 1) (h : mrB n a = true) : a ^ (n - 1) % n = 1 := by
  obtain ⟨s, hs⟩ : ∃ s, s = tzF 31 (n - 1) := ⟨_, rfl⟩
  have hs1 : 1 ≤ s := by rw [hs]; exact tzF_pos (f := 30) (by omega)
  obtain ⟨d, hd⟩ := tzF_dvd 31 (n - 1)
  rw [← hs] at hd
  have hdd : (n - 1) / 2 ^ s = d := by rw [hd]; exact Nat.mul_div_cancel_left d (Nat.pow_pos (by decide))
  unfold mrB at h
  rw [← hs, hdd] at h
  -- a square that is 1 below the end
  have fin : ∀ i, i < s → a ^ (d * 2 ^ i) % n = n - 1 → a ^ (n - 1) % n = 1 := fun i hi e => by
    have e2 : a ^ (d * 2 ^ (i + 1)) % n = 1 := by
      rw [Nat.pow_succ, ← Nat.mul_assoc, Nat.pow_mul, Nat.pow_two, Nat.mul_mod, e]
      exact sq_m1 (by omega)
    have e3 := pw1 e2 (by omega) (2 ^ (s - (i + 1)))
    rw [Nat.mul_assoc, ← Nat.pow_add, show i + 1 + (s - (i + 1)) = s by omega, Nat.mul_comm, ← hd] at e3
    exact e3
  by_cases c : a ^ d % n = 1 ∨ a ^ d % n = n - 1
  · rcases c with c | c
    · have := pw1 c (by omega) (2 ^ s)
      rw [Nat.mul_comm, ← hd] at this
      exact this
    · exact fin 0 (by omega) (by rw [Nat.pow_zero, Nat.mul_one]; exact c)
  · rw [if_neg c] at h
    obtain ⟨i, h1, h3, h4⟩ := mrL_t _ _ h
    refine fin i (by omega) ?_
    rw [Nat.pow_mul, Nat.pow_mod]
    exact h4
theorem pri.sqrt {p y : Nat} (h : pri p) (hy : y < p) (e : y * y % p = 1) : y = 1 ∨ y = p - 1 := by
  have h2 := h.1
  have hy0 : y ≠ 0 := fun z => by rw [z] at e; simp at e
  have e1 : (y * y) % p = 1 % p := by rw [e]; exact (Nat.mod_eq_of_lt (by omega)).symm
  have h1 := Nat.sub_mod_eq_zero_of_mod_eq e1
  have e2 : y * y - 1 = (y - 1) * (y + 1) := by
    obtain ⟨k, rfl⟩ : ∃ k, y = k + 1 := ⟨y - 1, by omega⟩
    show (k + 1) * (k + 1) - 1 = k * (k + 2)
    rw [Nat.add_mul, Nat.mul_add, Nat.mul_add k k 2]
    omega
  rw [e2] at h1
  rcases h.mul (Nat.dvd_of_mod_eq_zero h1) with z | z
  · left
    by_cases h0 : y - 1 = 0
    · omega
    · exact absurd z (pri.nd (by omega) (by omega))
  · right
    have := Nat.le_of_dvd (by omega) z
    omega
theorem pri_mrL {p : Nat} (h : pri p) : ∀ k x, x < p → x ^ (2 ^ k) % p = 1 → x = 1 ∨ x = p - 1 ∨ mrL p (k - 1) x = true
  | 0, x, hx, e => by
    rw [Nat.pow_zero, Nat.pow_one, Nat.mod_eq_of_lt hx] at e
    exact Or.inl e
  | k + 1, x, hx, e => by
    have hp : 0 < p := by omega
    have e1 : (x * x % p) ^ (2 ^ k) % p = 1 := by
      rw [← Nat.pow_mod, ← Nat.pow_two, ← Nat.pow_mul, Nat.mul_comm, ← Nat.pow_succ]
      exact e
    have hy := Nat.mod_lt (x * x) hp
    rcases pri_mrL h k _ hy e1 with z | z | z
    · rcases h.sqrt hx z with w | w
      · exact Or.inl w
      · exact Or.inr (Or.inl w)
    · cases k with
      | zero =>
        rw [Nat.pow_zero, Nat.pow_one, Nat.mod_mod] at e1
        rcases h.sqrt hx e1 with w | w
        · exact Or.inl w
        · exact Or.inr (Or.inl w)
      | succ j =>
        right; right
        show (if x * x % p = p - 1 then true else _) = true
        rw [if_pos z]
    · cases k with
      | zero => cases z
      | succ j =>
        right; right
        show (if x * x % p = p - 1 then true else mrL p j (x * x % p)) = true
        split
        · rfl
        · exact z
theorem pri_mrB {p a : Nat} (h : pri p) (ho : p % 2 = 1) (ha : ¬ p ∣ a) : mrB p a = true := by
  have h2 := h.1
  obtain ⟨s, hs⟩ : ∃ s, s = tzF 31 (p - 1) := ⟨_, rfl⟩
  obtain ⟨d, hd⟩ := tzF_dvd 31 (p - 1)
  rw [← hs] at hd
  have hdd : (p - 1) / 2 ^ s = d := by rw [hd]; exact Nat.mul_div_cancel_left d (Nat.pow_pos (by decide))
  unfold mrB
  rw [← hs, hdd]
  have e : (a ^ d % p) ^ (2 ^ s) % p = 1 := by
    rw [← Nat.pow_mod, ← Nat.pow_mul, Nat.mul_comm, ← hd]
    exact h.fermat ha
  rcases pri_mrL h s _ (Nat.mod_lt _ (by omega)) e with z | z | z
  · rw [if_pos (Or.inl z)]
  · rw [if_pos (Or.inr z)]
  · split
    · rfl
    · exact z
