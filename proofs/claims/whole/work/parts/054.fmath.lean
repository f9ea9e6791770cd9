/-! ===== fractions in lowest terms, told ===== -/
def norm (s : Bool) (u v : Nat) : Fr := if u = 0 then (false, 0, 1) else (s, u / Nat.gcd u v, v / Nat.gcd u v)
/-- lowest terms; 0 is 0 / 1 and not below -/
def flow (x : Fr) : Prop := 0 < x.2.2 ∧ Nat.gcd x.2.1 x.2.2 = 1 ∧ (x.2.1 = 0 → x.1 = false)
def wide (x : Fr) : Prop := x.2.1 < 4294967296 ^ 6 ∧ x.2.2 < 4294967296 ^ 6
/-- a FRACTION that stands -/
def fok (x : Fr) : Prop := flow x ∧ wide x
theorem flow_norm (s : Bool) (u : Nat) {v : Nat} (hv : 0 < v) : flow (norm s u v) := by
  unfold norm
  by_cases h : u = 0
  · rw [if_pos h]; exact ⟨by decide, by decide, fun _ => rfl⟩
  · rw [if_neg h]
    have hg : 0 < Nat.gcd u v := Nat.gcd_pos_of_pos_right u hv
    refine ⟨Nat.div_pos (Nat.gcd_le_right u hv) hg, Nat.coprime_div_gcd_div_gcd hg, fun z => ?_⟩
    have : 0 < u / Nat.gcd u v := Nat.div_pos (Nat.gcd_le_left v (by omega)) hg
    simp only at z
    omega
theorem flow_0 {x : Fr} (h : flow x) (h0 : x.2.1 = 0) : x = (false, 0, 1) := by
  obtain ⟨s, u, v⟩ := x
  obtain ⟨h1, h2, h3⟩ := h
  simp only at h0 h1 h2 h3
  subst h0
  rw [Nat.gcd_zero_left] at h2
  rw [h2, h3 rfl]
/-- coprime parts, times one number: they come back -/
theorem norm_mul {s : Bool} {u v k : Nat} (hk : 0 < k) (hu : u ≠ 0) (hc : Nat.gcd u v = 1) : norm s (u * k) (v * k) = (s, u, v) := by
  unfold norm
  rw [if_neg (Nat.mul_ne_zero hu (Nat.ne_of_gt hk)), Nat.gcd_mul_right, hc, Nat.one_mul, Nat.mul_div_cancel _ hk, Nat.mul_div_cancel _ hk]
theorem norm_zero (s : Bool) (v : Nat) : norm s 0 v = (false, 0, 1) := by simp [norm]
/-- a product's parts by cross division -/
theorem mul_parts {ua va bu bl : Nat} (s : Bool) (hva : 0 < va) (hbl : 0 < bl) (h1 : Nat.gcd ua va = 1) (h2 : Nat.gcd bu bl = 1) : norm s (ua * bu) (va * bl) = (s && decide (ua / Nat.gcd ua bl * (bu / Nat.gcd bu va) ≠ 0), ua / Nat.gcd ua bl * (bu / Nat.gcd bu va), va / Nat.gcd bu va * (bl / Nat.gcd ua bl)) := by
  have hg1 : 0 < Nat.gcd ua bl := Nat.gcd_pos_of_pos_right ua hbl
  have hg2 : 0 < Nat.gcd bu va := Nat.gcd_pos_of_pos_right bu hva
  obtain ⟨a, ha⟩ := Nat.gcd_dvd_left ua bl
  obtain ⟨b, hb⟩ := Nat.gcd_dvd_right ua bl
  obtain ⟨c, hc⟩ := Nat.gcd_dvd_left bu va
  obtain ⟨d, hd⟩ := Nat.gcd_dvd_right bu va
  have cab := Nat.coprime_div_gcd_div_gcd hg1
  have ccd := Nat.coprime_div_gcd_div_gcd hg2
  generalize Nat.gcd ua bl = g1 at *
  generalize Nat.gcd bu va = g2 at *
  have e1 : ua / g1 = a := by rw [ha, Nat.mul_div_cancel_left _ hg1]
  have e2 : bl / g1 = b := by rw [hb, Nat.mul_div_cancel_left _ hg1]
  have e3 : bu / g2 = c := by rw [hc, Nat.mul_div_cancel_left _ hg2]
  have e4 : va / g2 = d := by rw [hd, Nat.mul_div_cancel_left _ hg2]
  rw [e1, e2] at cab
  rw [e3, e4] at ccd
  rw [e1, e2, e3, e4]
  have cad : Nat.Coprime a d := Nat.Coprime.coprime_mul_left (k := g1) (Nat.Coprime.coprime_mul_left_right (k := g2) (by rw [← ha, ← hd]; exact h1))
  have ccb : Nat.Coprime c b := Nat.Coprime.coprime_mul_left (k := g2) (Nat.Coprime.coprime_mul_left_right (k := g1) (by rw [← hc, ← hb]; exact h2))
  have hco : Nat.gcd (a * c) (d * b) = 1 := Nat.Coprime.mul_left (Nat.Coprime.mul_right cad cab) (Nat.Coprime.mul_right ccd ccb)
  have k1 : ua * bu = a * c * (g1 * g2) := by rw [ha, hc]; simp only [Nat.mul_comm, Nat.mul_left_comm, Nat.mul_assoc]
  have k2 : va * bl = d * b * (g1 * g2) := by rw [hd, hb]; simp only [Nat.mul_comm, Nat.mul_left_comm, Nat.mul_assoc]
  by_cases hz : a * c = 0
  · have hdb : d * b = 1 := by rw [hz, Nat.gcd_zero_left] at hco; exact hco
    rw [k1, hz, Nat.zero_mul, norm_zero, hdb]
    simp
  · rw [k1, k2, norm_mul (Nat.mul_pos hg1 hg2) hz hco]
    simp [hz]
/-- a sum's parts: c is what the lower parts share, t the upper part by it -/
theorem add_parts {T va vb c t : Nat} (s : Bool) (hva : 0 < va) (hvb : 0 < vb) (hc : c = Nat.gcd va vb) (hT : T = t * c) (ha : Nat.gcd t (va / c) = 1) (hb : Nat.gcd t (vb / c) = 1) : norm s T (va * vb) = (s && decide (t / Nat.gcd t c ≠ 0), t / Nat.gcd t c, va / c * (vb / Nat.gcd t c)) := by
  have hc0 : 0 < c := by rw [hc]; exact Nat.gcd_pos_of_pos_left vb hva
  obtain ⟨a, hae⟩ : c ∣ va := by rw [hc]; exact Nat.gcd_dvd_left va vb
  obtain ⟨b, hbe⟩ : c ∣ vb := by rw [hc]; exact Nat.gcd_dvd_right va vb
  have e1 : va / c = a := by rw [hae, Nat.mul_div_cancel_left _ hc0]
  have e2 : vb / c = b := by rw [hbe, Nat.mul_div_cancel_left _ hc0]
  rw [e1] at ha ⊢
  rw [e2] at hb
  have hg0 : 0 < Nat.gcd t c := Nat.gcd_pos_of_pos_right t hc0
  have hco0 := Nat.coprime_div_gcd_div_gcd hg0
  obtain ⟨t', ht'⟩ := Nat.gcd_dvd_left t c
  obtain ⟨c', hc'⟩ := Nat.gcd_dvd_right t c
  generalize hg : Nat.gcd t c = g at *
  have e3 : t / g = t' := by rw [ht', Nat.mul_div_cancel_left _ hg0]
  have e4 : c / g = c' := by rw [hc', Nat.mul_div_cancel_left _ hg0]
  rw [e3, e4] at hco0
  rw [e3]
  have e5 : vb / g = c' * b := by rw [hbe, hc', Nat.mul_assoc, Nat.mul_div_cancel_left _ hg0]
  rw [e5]
  have cta : Nat.Coprime t' a := Nat.Coprime.coprime_mul_left (k := g) (by rw [← ht']; exact ha)
  have ctb : Nat.Coprime t' b := Nat.Coprime.coprime_mul_left (k := g) (by rw [← ht']; exact hb)
  have hco : Nat.gcd t' (a * (c' * b)) = 1 := Nat.Coprime.mul_right cta (Nat.Coprime.mul_right hco0 ctb)
  have k1 : T = t' * (g * c) := by rw [hT, ht']; simp only [Nat.mul_comm, Nat.mul_left_comm]
  have k2 : va * vb = a * (c' * b) * (g * c) := by
    rw [hae, hbe]
    have : c * b = c' * b * g := by rw [hc']; simp only [Nat.mul_comm, Nat.mul_left_comm]
    rw [this]
    simp only [Nat.mul_comm, Nat.mul_left_comm, Nat.mul_assoc]
  by_cases hz : t' = 0
  · rw [hz, Nat.gcd_zero_left] at hco
    rw [k1, hz, Nat.zero_mul, norm_zero, hco]
    simp
  · rw [k1, k2, norm_mul (Nat.mul_pos hg0 hc0) hz hco]
    simp [hz]
/-- the upper part shares nothing with what is left of a lower part -/
theorem cop_add {ua va ub vb c : Nat} (hva : 0 < va) (hc : c = Nat.gcd va vb) (h : Nat.gcd ua va = 1) : Nat.gcd (ua * (vb / c) + ub * (va / c)) (va / c) = 1 := by
  rw [Nat.add_comm, Nat.gcd_comm, Nat.gcd_mul_right_add_right, Nat.gcd_comm]
  have hc0 : 0 < Nat.gcd va vb := Nat.gcd_pos_of_pos_left vb hva
  have h1 : Nat.Coprime ua (va / c) := Nat.Coprime.coprime_div_right h (by rw [hc]; exact Nat.gcd_dvd_left va vb)
  have h2 : Nat.Coprime (vb / c) (va / c) := by rw [hc]; exact (Nat.coprime_div_gcd_div_gcd hc0).symm
  exact Nat.Coprime.mul_left h1 h2
