/-! ===== what reads the ROWS reads their places alone ===== -/
def mEq (n : Nat) (M M' : Mx) : Prop := ∀ p k, p < n → k ≤ n → M p k = M' p k
theorem mEq.symm {n : Nat} {M M' : Mx} (h : mEq n M M') : mEq n M' M := fun p k hp hk => (h p k hp hk).symm
theorem mEq.u2 {n : Nat} {M M' : Mx} (h : mEq n M M') (p k : Nat) (x : Fr) : mEq n (up2 M p k x) (up2 M' p k x) := fun i j hi hj => by
  unfold up2
  by_cases e : i = p ∧ j = k
  · rw [if_pos e, if_pos e]
  · rw [if_neg e, if_neg e]; exact h i j hi hj
theorem mEq.sw {n : Nat} {M M' : Mx} (h : mEq n M M') {a b : Nat} (ha : a < n) (hb : b < n) : mEq n (swp M a b) (swp M' a b) := fun i j hi hj => by
  unfold swp
  by_cases e : i = a
  · rw [if_pos e, if_pos e]; exact h b j hb hj
  · rw [if_neg e, if_neg e]
    by_cases e2 : i = b
    · rw [if_pos e2, if_pos e2]; exact h a j ha hj
    · rw [if_neg e2, if_neg e2]; exact h i j hi hj
theorem chz_congr {n : Nat} {M M' : Mx} (h : mEq n M M') {way j : Nat} (hj : j ≤ n) : ∀ (d p : Nat) (b : Option Nat), p + d ≤ n → (∀ c, b = some c → c < n) → chz M way j d p b = chz M' way j d p b
  | 0, _, _, _, _ => rfl
  | d + 1, p, b, hp, hb => by
    have e : (if (M p j).2.1 = 0 then b else pick M way j p b) = (if (M' p j).2.1 = 0 then b else pick M' way j p b) := by
      rw [h p j (by omega) hj]
      split
      · rfl
      · cases b with
        | none => rfl
        | some c => simp only [pick]; rw [h p j (by omega) hj, h c j (hb c rfl) hj]
    simp only [chz]
    rw [e]
    refine chz_congr h hj d (p + 1) _ (by omega) (fun c hc => ?_)
    split at hc
    · exact hb c hc
    · cases b with
      | none => simp [pick] at hc; omega
      | some c' =>
        simp only [pick] at hc
        split at hc
        · simp at hc; omega
        · exact hb c hc
def oEq (n : Nat) : Option Mx → Option Mx → Prop
  | none, none => True
  | some M, some M' => mEq n M M'
  | _, _ => False
theorem clrK_congr {n t p : Nat} {f : Fr} (ht : t < n) (hp : p < n) : ∀ (d k : Nat) (M M' : Mx), mEq n M M' → k + d ≤ n + 1 → oEq n (clrK f t p d k M) (clrK f t p d k M')
  | 0, _, M, M', h, _ => h
  | d + 1, k, M, M', h, hk => by
    simp only [clrK]
    rw [h t k ht (by omega), h p k hp (by omega)]
    split
    · split
      · exact clrK_congr ht hp d (k + 1) _ _ (h.u2 p k _) (by omega)
      · trivial
    · trivial
theorem clrR_congr {n t p j e : Nat} {M M' : Mx} (h : mEq n M M') (ht : t < n) (hp : p < n) (hj : j < n) (he : e ≤ n + 1) : oEq n (clrR M t p j e) (clrR M' t p j e) := by
  unfold clrR
  rw [h t j ht (by omega), h p j hp (by omega)]
  split
  · have hk := clrK_congr (f := fmul (M' p j) (M' t j) true) ht hp (e - (j + 1)) (j + 1) M M' h (by omega)
    revert hk
    cases clrK (fmul (M' p j) (M' t j) true) t p (e - (j + 1)) (j + 1) M <;> cases clrK (fmul (M' p j) (M' t j) true) t p (e - (j + 1)) (j + 1) M' <;> intro hk
    · trivial
    · exact hk
    · exact hk
    · exact mEq.u2 hk p j f0
  · trivial
theorem clrA_congr {n t j e : Nat} (ht : t < n) (hj : j < n) (he : e ≤ n + 1) : ∀ (d p : Nat) (M M' : Mx), mEq n M M' → p + d ≤ n → oEq n (clrA t j e d p M) (clrA t j e d p M')
  | 0, _, M, M', h, _ => h
  | d + 1, p, M, M', h, hp => by
    simp only [clrA]
    rw [h p j (by omega) (by omega)]
    split
    · exact clrA_congr ht hj he d (p + 1) M M' h (by omega)
    · have hk := clrR_congr h ht (show p < n by omega) hj he
      revert hk
      cases clrR M t p j e <;> cases clrR M' t p j e <;> intro hk
      · trivial
      · exact hk.elim
      · exact hk.elim
      · exact clrA_congr ht hj he d (p + 1) _ _ hk (by omega)
def lEq (n : Nat) : Option El → Option El → Prop
  | none, none => True
  | some s, some s' => mEq n s.1 s'.1 ∧ s.2 = s'.2 ∧ s.2.2.1 ≤ n ∧ ∀ p, p < s.2.2.1 → s.2.2.2.1 p < n
  | _, _ => False
theorem elJ_congr {way n e : Nat} (he : e ≤ n + 1) : ∀ (d j : Nat) (s s' : El), j + d ≤ n → lEq n (some s) (some s') → lEq n (elJ way n e d j s) (elJ way n e d j s')
  | 0, _, s, s', _, h => h
  | d + 1, j, s, s', hj, h => by
    obtain ⟨h1, h2, h3, h4⟩ := h
    obtain ⟨M, r⟩ := s
    obtain ⟨M', r'⟩ := s'
    have h2' : r = r' := h2
    subst h2'
    simp only at h1 h3 h4
    simp only [elJ]
    rw [chz_congr h1 (show j ≤ n by omega) (n - r.2.1) r.2.1 none (by omega) (fun c hc => by cases hc)]
    cases hc : chz M' way j (n - r.2.1) r.2.1 none with
    | none => exact elJ_congr he d (j + 1) _ _ (by omega) ⟨h1, rfl, h3, h4⟩
    | some c =>
      have hcb : r.2.1 ≤ c ∧ c < n := by
        rcases chz_some _ _ _ _ hc with z | z
        · cases z
        · exact ⟨z.1, by omega⟩
      simp only
      have hA := clrA_congr (n := n) (t := r.2.1) (j := j) (e := e) (by omega) (by omega) he (n - (r.2.1 + 1)) (r.2.1 + 1) (swp M c r.2.1) (swp M' c r.2.1) (h1.sw hcb.2 (by omega)) (by omega)
      revert hA
      cases clrA r.2.1 j e (n - (r.2.1 + 1)) (r.2.1 + 1) (swp M c r.2.1) <;> cases clrA r.2.1 j e (n - (r.2.1 + 1)) (r.2.1 + 1) (swp M' c r.2.1) <;> intro hA
      · trivial
      · exact hA.elim
      · exact hA.elim
      · simp only
        refine elJ_congr he d (j + 1) _ _ (by omega) ⟨hA, ?_, by simp only; omega, fun p hp => ?_⟩
        · rw [h1 c j hcb.2 (by omega)]
        · simp only at hp ⊢
          by_cases ep : p = r.2.1
          · rw [ep, up_self]; omega
          · rw [up_ne _ _ ep]; exact h4 p (by omega)
theorem elim_congr {way n e : Nat} {M M' : Mx} (h : mEq n M M') (he : e ≤ n + 1) : lEq n (elim way n e M) (elim way n e M') := elJ_congr he n 0 _ _ (by omega) ⟨h, rfl, Nat.zero_le n, fun p hp => absurd hp (Nat.not_lt_zero p)⟩
theorem hasA_congr {n : Nat} {M M' : Mx} (h : mEq n M M') : ∀ (d p : Nat), p + d ≤ n → hasA M n d p = hasA M' n d p
  | 0, _, _ => rfl
  | d + 1, p, hp => by
    simp only [hasA]
    rw [h p n (by omega) (Nat.le_refl n), hasA_congr h d (p + 1) (by omega)]
theorem fuK_congr {n t : Nat} {M M' : Mx} {U : Nat → Fr} (h : mEq n M M') (ht : t < n) : ∀ (d k : Nat) (x : Fr), k + d ≤ n + 1 → fuK M U t d k x = fuK M' U t d k x
  | 0, _, _, _ => rfl
  | d + 1, k, x, hk => by
    simp only [fuK]
    rw [h t k ht (by omega)]
    split
    · split
      · exact fuK_congr h ht d (k + 1) _ (by omega)
      · rfl
    · rfl
theorem fuT_congr {n : Nat} {M M' : Mx} {cc : Nat → Nat} (h : mEq n M M') : ∀ (t : Nat) (U : Nat → Fr), t ≤ n → (∀ p, p < t → cc p < n) → fuT M cc n t U = fuT M' cc n t U
  | 0, _, _, _ => rfl
  | t + 1, U, ht, hc => by
    have hct := hc t (by omega)
    simp only [fuT]
    rw [h t n (by omega) (Nat.le_refl n), fuK_congr h (show t < n by omega) _ _ _ (by omega), h t (cc t) (by omega) (by omega)]
    split
    · rfl
    · split
      · exact fuT_congr h t _ (by omega) (fun p hp => hc p (by omega))
      · rfl
theorem solS_congr {n : Nat} {M M' : Mx} {r : (Nat → Nat) × Nat × (Nat → Nat) × (Nat → Nat) × Bool} (h : mEq n M M') (ht : r.2.1 ≤ n) (hc : ∀ p, p < r.2.1 → r.2.2.1 p < n) : solS n (M, r) = solS n (M', r) := by
  unfold solS
  simp only
  rw [hasA_congr h _ _ (by omega), fuT_congr h _ _ ht hc]
theorem prP_congr {n : Nat} {f g : Nat → Fr} (h : ∀ p, p < n → f p = g p) : ∀ (d i : Nat) (x : Fr), i + d ≤ n → prP f d i x = prP g d i x
  | 0, _, _, _ => rfl
  | d + 1, i, x, hi => by
    simp only [prP]
    rw [h i (by omega)]
    split
    · exact prP_congr h d (i + 1) _ (by omega)
    · rfl
theorem detP_congr {n : Nat} {M M' : Mx} {r : (Nat → Nat) × Nat × (Nat → Nat) × (Nat → Nat) × Bool} (hn : 1 ≤ n) (h : mEq n M M') (ht : r.2.1 ≤ n) (hc : ∀ p, p < r.2.1 → r.2.2.1 p < n) : detP n (M, r) = detP n (M', r) := by
  unfold detP
  simp only
  by_cases h9 : r.2.1 < n
  · rw [if_pos h9, if_pos h9]
  · rw [if_neg h9, if_neg h9]
    have e : ∀ p, p < n → M p (r.2.2.1 p) = M' p (r.2.2.1 p) := fun p hp => h p _ hp (Nat.le_of_lt (hc p (by omega)))
    rw [prP_congr (n := n) (f := fun t => M t (r.2.2.1 t)) (g := fun t => M' t (r.2.2.1 t)) e (n - 1) 1 _ (by omega), e 0 (by omega)]
theorem bind_congr {n way e : Nat} {α : Type} {M M' : Mx} {F : El → Option α} (h : mEq n M M') (he : e ≤ n + 1) (hF : ∀ (N N' : Mx) (r : (Nat → Nat) × Nat × (Nat → Nat) × (Nat → Nat) × Bool), mEq n N N' → r.2.1 ≤ n → (∀ p, p < r.2.1 → r.2.2.1 p < n) → F (N, r) = F (N', r)) : (elim way n e M).bind F = (elim way n e M').bind F := by
  have hl := elim_congr (way := way) h he
  revert hl
  cases elim way n e M <;> cases elim way n e M' <;> intro hl
  · rfl
  · exact hl.elim
  · exact hl.elim
  · rename_i s s'
    obtain ⟨N, r⟩ := s
    obtain ⟨N', r'⟩ := s'
    obtain ⟨h1, h2, h3, h4⟩ := hl
    have h2' : r = r' := h2
    subst h2'
    exact hF N N' r h1 h3 h4
theorem solve_congr {n way : Nat} {M M' : Mx} (h : mEq n M M') : (elim way n (n + 1) M).bind (solS n) = (elim way n (n + 1) M').bind (solS n) := bind_congr h (Nat.le_refl _) (fun _ _ _ h1 h2 h3 => solS_congr h1 h2 h3)
theorem det_congr {n way : Nat} {M M' : Mx} (hn : 1 ≤ n) (h : mEq n M M') : (elim way n n M).bind (detP n) = (elim way n n M').bind (detP n) := bind_congr h (by omega) (fun _ _ _ h1 h2 h3 => detP_congr hn h1 h2 h3)
theorem mz_congr {n : Nat} {f g : Nat → Fr} (h : ∀ p, p < n → f p = g p) : ∀ (d i : Nat), i + d ≤ n → mz f d i = mz g d i
  | 0, _, _ => rfl
  | d + 1, i, hi => by
    simp only [mz]
    rw [h i (by omega), mz_congr h d (i + 1) (by omega)]
theorem detS_congr {n : Nat} {M M' : Mx} {o : Nat → Nat} {x : Fr} (hn : 1 ≤ n) (h : mEq n M M') (ho : ∀ p, p < n → o p < n) : detS n M o x = detS n M' o x := by
  have e : ∀ p, p < n → M p (o p) = M' p (o p) := fun p hp => h p _ hp (Nat.le_of_lt (ho p hp))
  unfold detS detA
  rw [mz_congr (f := fun i => M i (o i)) (g := fun i => M' i (o i)) e n 0 (by omega), prP_congr (n := n) (f := fun i => M i (o i)) (g := fun i => M' i (o i)) e (n - 1) 1 _ (by omega), e 0 (by omega)]
theorem detT_congr {n : Nat} {M M' : Mx} (hn : 1 ≤ n) (h : mEq n M M') : ∀ (d : Nat) (o : Nat → Nat) (x : Fr), (∀ p, p < n → o p < n) → detT n M d o x = detT n M' d o x
  | 0, _, _, _ => rfl
  | d + 1, o, x, ho => by
    simp only [detT]
    rw [detS_congr hn h ho]
    split
    · rfl
    · split
      · rfl
      · rename_i o' ho'
        exact detT_congr hn h d _ _ (nxt_lt hn ho ho')
theorem detO_congr {n : Nat} {M M' : Mx} (hn : 1 ≤ n) (h : mEq n M M') : detO n M = detO n M' := detT_congr hn h 120 _ _ (fun p hp => hp)
theorem sumR_congr {n : Nat} {R R' U U' : Nat → Fr} (h : ∀ k, k < n → R k = R' k) (hU : ∀ k, k < n → U k = U' k) : ∀ (d k : Nat) (x : Fr), k + d ≤ n → sumR R U d k x = sumR R' U' d k x
  | 0, _, _, _ => rfl
  | d + 1, k, x, hk => by
    simp only [sumR]
    rw [h k (by omega), hU k (by omega)]
    split
    · split
      · exact sumR_congr h hU d (k + 1) _ (by omega)
      · rfl
    · rfl
