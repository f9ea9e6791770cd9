/-! ===== no composite number below 2 ^ 31 passes ===== -/
theorem seekA {m : Nat} (h : m < 32768) : okA m = true := by
  by_cases h0 : m < 4096
  · exact rg2_ok sA0 m (by omega) (by omega)
  by_cases h1 : m < 8192
  · exact rg2_ok sA1 m (by omega) (by omega)
  by_cases h2 : m < 12288
  · exact rg2_ok sA2 m (by omega) (by omega)
  by_cases h3 : m < 16384
  · exact rg2_ok sA3 m (by omega) (by omega)
  by_cases h4 : m < 20480
  · exact rg2_ok sA4 m (by omega) (by omega)
  by_cases h5 : m < 24576
  · exact rg2_ok sA5 m (by omega) (by omega)
  by_cases h6 : m < 28672
  · exact rg2_ok sA6 m (by omega) (by omega)
  by_cases h7 : m < 32768
  · exact rg2_ok sA7 m (by omega) (by omega)
  omega
theorem seekB {q : Nat} (h1 : 1024 ≤ q) (h : q < 65536) : okB q = true := by
  by_cases h2 : q < 1536
  · exact rg2_ok sB0 q (by omega) (by omega)
  by_cases h3 : q < 2048
  · exact rg2_ok sB1 q (by omega) (by omega)
  by_cases h4 : q < 3072
  · exact rg2_ok sB2 q (by omega) (by omega)
  by_cases h5 : q < 4096
  · exact rg2_ok sB3 q (by omega) (by omega)
  by_cases h6 : q < 8192
  · exact rg2_ok sB4 q (by omega) (by omega)
  by_cases h7 : q < 16384
  · exact rg2_ok sB5 q (by omega) (by omega)
  by_cases h8 : q < 32768
  · exact rg2_ok sB6 q (by omega) (by omega)
  by_cases h9 : q < 65536
  · exact rg2_ok sB7 q (by omega) (by omega)
  omega
theorem seekC {q : Nat} (h1 : 100 ≤ q) (h : q < 1024) : okC q = true := by
  by_cases h2 : q < 102
  · exact rg2_ok sC0 q (by omega) (by omega)
  by_cases h3 : q < 106
  · exact rg2_ok sC1 q (by omega) (by omega)
  by_cases h4 : q < 108
  · exact rg2_ok sC2 q (by omega) (by omega)
  by_cases h5 : q < 112
  · exact rg2_ok sC3 q (by omega) (by omega)
  by_cases h6 : q < 120
  · exact rg2_ok sC4 q (by omega) (by omega)
  by_cases h7 : q < 128
  · exact rg2_ok sC5 q (by omega) (by omega)
  by_cases h8 : q < 136
  · exact rg2_ok sC6 q (by omega) (by omega)
  by_cases h9 : q < 144
  · exact rg2_ok sC7 q (by omega) (by omega)
  by_cases h10 : q < 152
  · exact rg2_ok sC8 q (by omega) (by omega)
  by_cases h11 : q < 160
  · exact rg2_ok sC9 q (by omega) (by omega)
  by_cases h12 : q < 176
  · exact rg2_ok sC10 q (by omega) (by omega)
  by_cases h13 : q < 192
  · exact rg2_ok sC11 q (by omega) (by omega)
  by_cases h14 : q < 208
  · exact rg2_ok sC12 q (by omega) (by omega)
  by_cases h15 : q < 224
  · exact rg2_ok sC13 q (by omega) (by omega)
  by_cases h16 : q < 256
  · exact rg2_ok sC14 q (by omega) (by omega)
  by_cases h17 : q < 288
  · exact rg2_ok sC15 q (by omega) (by omega)
  by_cases h18 : q < 352
  · exact rg2_ok sC16 q (by omega) (by omega)
  by_cases h19 : q < 416
  · exact rg2_ok sC17 q (by omega) (by omega)
  by_cases h20 : q < 544
  · exact rg2_ok sC18 q (by omega) (by omega)
  by_cases h21 : q < 800
  · exact rg2_ok sC19 q (by omega) (by omega)
  by_cases h22 : q < 928
  · exact rg2_ok sC20 q (by omega) (by omega)
  by_cases h23 : q < 992
  · exact rg2_ok sC21 q (by omega) (by omega)
  by_cases h24 : q < 1024
  · exact rg2_ok sC22 q (by omega) (by omega)
  omega
theorem no_spp {n : Nat} (hn : n < 2147483648) (h11 : 11 ≤ n) (ho : n % 2 = 1) (hc : Nat.gcd n 210 = 1) (hS : Spp n) : pri n := by
  refine Classical.byContradiction (fun hp => ?_)
  obtain ⟨q, m, hq, e, hb⟩ := big_pri n (by omega)
  have hm0 : m ≠ 0 := fun z => by rw [z, Nat.mul_zero] at e; omega
  have hm1 : m ≠ 1 := fun z => by rw [z, Nat.mul_one] at e; exact hp (e ▸ hq)
  have hq11 : 11 ≤ q := pri11 hq (Nat.Coprime.coprime_dvd_left ⟨m, e⟩ hc)
  have h : Cand n q m := ⟨hn, e, hq, by omega, hq11, ho, hS, hc, hb⟩
  by_cases c1 : q < 100
  · exact okD_ok sD h c1
  by_cases c2 : q < 1024
  · exact okC_ok h (by omega) c2 (seekC (by omega) c2)
  by_cases c3 : q < 65536
  · exact okB_ok h (by omega) c3 (seekB (by omega) c3)
  · refine okA_ok P2_ok h (by omega) (seekA ?_)
    have : 65536 * m ≤ q * m := Nat.mul_le_mul_right m (by omega)
    omega
theorem cop210 {n : Nat} (h2 : n % 2 ≠ 0) (h3 : n % 3 ≠ 0) (h5 : n % 5 ≠ 0) (h7 : n % 7 ≠ 0) : Nat.gcd n 210 = 1 := by
  refine Classical.byContradiction (fun h => ?_)
  have h0 : 0 < Nat.gcd n 210 := Nat.gcd_pos_of_pos_right n (by decide)
  obtain ⟨r, hr, hd⟩ := has_pri (show 2 ≤ Nat.gcd n 210 by omega)
  have hn := Nat.dvd_trans hd (Nat.gcd_dvd_left n 210)
  have h9 := Nat.dvd_trans hd (Nat.gcd_dvd_right n 210)
  have p2 : pri 2 := pri_tpr.mpr ⟨by decide, fun d h1 h2 => by have : d * 2 ≤ d * d := Nat.mul_le_mul_left d h1; omega⟩
  have sml : ∀ p, p = 2 ∨ p = 3 ∨ p = 5 ∨ p = 7 → pri p := fun p hp => by
    refine pri_tpr.mpr ⟨by omega, fun d h1 h2 => ?_⟩
    have h4 : d < 3 := by
      rcases Nat.lt_or_ge d 3 with z | z
      · exact z
      · have : 3 * 3 ≤ d * d := Nat.mul_le_mul z z
        omega
    have e : d = 2 := by omega
    rw [e] at h2 ⊢
    omega
  have hcase : r ∣ 2 * (3 * (5 * 7)) := h9
  rcases hr.mul hcase with z | z
  · rw [(sml 2 (by simp)).eq hr z] at hn; exact h2 (Nat.mod_eq_zero_of_dvd hn)
  rcases hr.mul z with z | z
  · rw [(sml 3 (by simp)).eq hr z] at hn; exact h3 (Nat.mod_eq_zero_of_dvd hn)
  rcases hr.mul z with z | z
  · rw [(sml 5 (by simp)).eq hr z] at hn; exact h5 (Nat.mod_eq_zero_of_dvd hn)
  · rw [(sml 7 (by simp)).eq hr z] at hn; exact h7 (Nat.mod_eq_zero_of_dvd hn)
theorem pr1_eq (p : Nat) : pr1 p 4 0 = if p % 2 = 0 then decide (p = 2) else if p % 3 = 0 then decide (p = 3) else if p % 5 = 0 then decide (p = 5) else if p % 7 = 0 then decide (p = 7) else pr2 p 4 0 := rfl
theorem pr2_eq (p : Nat) : pr2 p 4 0 = if mrB p 2 = true then (if mrB p 3 = true then (if mrB p 5 = true then (if mrB p 7 = true then true else false) else false) else false) else false := rfl
theorem pr2_t {p : Nat} : pr2 p 4 0 = true ↔ Spp p := by
  rw [pr2_eq]
  unfold Spp
  constructor
  · intro h
    split at h
    · split at h
      · split at h
        · split at h
          · refine ⟨?_, ?_, ?_, ?_⟩ <;> assumption
          · cases h
        · cases h
      · cases h
    · cases h
  · rintro ⟨h1, h2, h3, h4⟩
    rw [if_pos h1, if_pos h2, if_pos h3, if_pos h4]
theorem pri_wt {p d : Nat} (h : pri p) (hd : 2 ≤ d) (hm : p % d = 0) : p = d := ((h.2 d (Nat.dvd_of_mod_eq_zero hm)).resolve_left (by omega)).symm
theorem prOk_all : prOk := by
  intro p hp
  rw [← pri_tpr]
  by_cases h2 : p < 2
  · have e : isPrB p = false := by unfold isPrB; rw [if_pos h2]
    rw [e]
    exact ⟨(fun h => nomatch h), fun h => absurd h.1 (by omega)⟩
  have e : isPrB p = pr1 p 4 0 := by unfold isPrB; rw [if_neg h2]
  rw [e, pr1_eq]
  have sml : ∀ d, d = 2 ∨ d = 3 ∨ d = 5 ∨ d = 7 → pri d := fun p hp => by
    refine pri_tpr.mpr ⟨by omega, fun d h1 h2 => ?_⟩
    have h4 : d < 3 := by
      rcases Nat.lt_or_ge d 3 with z | z
      · exact z
      · have : 3 * 3 ≤ d * d := Nat.mul_le_mul z z
        omega
    have e : d = 2 := by omega
    rw [e] at h2 ⊢
    omega
  by_cases c2 : p % 2 = 0
  · rw [if_pos c2]
    exact ⟨fun h => (of_decide_eq_true h) ▸ sml 2 (by simp), fun h => decide_eq_true (pri_wt h (by decide) c2)⟩
  rw [if_neg c2]
  by_cases c3 : p % 3 = 0
  · rw [if_pos c3]
    exact ⟨fun h => (of_decide_eq_true h) ▸ sml 3 (by simp), fun h => decide_eq_true (pri_wt h (by decide) c3)⟩
  rw [if_neg c3]
  by_cases c5 : p % 5 = 0
  · rw [if_pos c5]
    exact ⟨fun h => (of_decide_eq_true h) ▸ sml 5 (by simp), fun h => decide_eq_true (pri_wt h (by decide) c5)⟩
  rw [if_neg c5]
  by_cases c7 : p % 7 = 0
  · rw [if_pos c7]
    exact ⟨fun h => (of_decide_eq_true h) ▸ sml 7 (by simp), fun h => decide_eq_true (pri_wt h (by decide) c7)⟩
  rw [if_neg c7, pr2_t]
  have h11 : 11 ≤ p := by
    rcases Nat.lt_or_ge p 11 with z | z
    · exact absurd c7 (fun d => (by decide : ∀ p, p < 11 → ¬ (2 ≤ p ∧ p % 2 ≠ 0 ∧ p % 3 ≠ 0 ∧ p % 5 ≠ 0 ∧ p % 7 ≠ 0)) p z ⟨by omega, c2, c3, c5, c7⟩)
    · exact z
  constructor
  · exact fun h => no_spp hp h11 (by omega) (cop210 c2 c3 c5 c7) h
  · exact fun h => ⟨pri_mrB h (by omega) (pri.nd (by decide) (by omega)), pri_mrB h (by omega) (pri.nd (by decide) (by omega)), pri_mrB h (by omega) (pri.nd (by decide) (by omega)), pri_mrB h (by omega) (pri.nd (by decide) (by omega))⟩
