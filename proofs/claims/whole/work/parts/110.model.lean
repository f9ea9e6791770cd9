/-! ===== FractionRowsModel: what it stands for ===== -/
/-- only the model's own has changed -/
def gM (a : Nat → Nat) (V V' : Hv) : Prop := eG (fun ci _ b => ci = 9 ∧ b = a 0) (fun b => ∃ k, 1 ≤ k ∧ k ≤ 11 ∧ b = a k) V V'
theorem gM.trans {a : Nat → Nat} {V V1 V2 : Hv} (h1 : gM a V V1) (h2 : gM a V1 V2) : gM a V V2 := eG.trans h1 h2
def rMv (a : Nat → Nat) (V : Hv) (n : Nat) (o : Option Sv) : Prop := vI V 9 7 (a 0) = zb o.isSome ∧ ∀ v, o = some v → vI V 9 8 (a 0) = zb (!v.1) ∧ vI V 9 9 (a 0) = nI v.2.1 ∧ v.2.1 ≤ n ∧ ∀ p, p < v.2.1 → vA V (a 3) p = nI (v.2.2.1 p) ∧ vA V (a 4) p = nI (v.2.2.2.1 p) ∧ vA V (a 5) p = nI (v.2.2.2.2.1 p)
def rMx (a : Nat → Nat) (V : Hv) (bs : List Nat) : Prop := vI V 9 20 (a 0) = nI bs.length ∧ bs.length ≤ 120 ∧ ∀ i, i < bs.length → vA V (a 10) i = nI (bs.getD (bs.length - 1 - i) 0)
def rMf (a : Nat → Nat) (V : Hv) (n : Nat) (s : St) : Prop := (vI V 9 2 (a 0) = nI n ∧ vI V 9 3 (a 0) = nI (tc s) ∧ tc s ≤ 40 ∧ vI V 9 4 (a 0) = (tj s).2.2 ∧ vI V 9 5 (a 0) = tg s) ∧ rMv a V n (tv s) ∧ rMx a V (tt s)
def rMt (n : Nat) (T : Nat → Fr) (s : St) : Prop := (∀ i, i < tc s → T i = tn s i) ∧ (∀ p k, p < n → k ≤ n → T (40 + 6 * p + k) = tm s p k) ∧ (∀ v, tv s = some v → v.1 = true → ∀ j, j < n → T (100 + j) = v.2.2.2.2.2 j) ∧ T 111 = (false, (tj s).1, (tj s).2.1)
/-- the model stands for s: by the fractions T, the slots L -/
def rMT (a : Nat → Nat) (V : Hv) (n : Nat) (T : Nat → Fr) (L : Nat → Nat) (s : St) : Prop := (1 ≤ n ∧ n ≤ 5) ∧ mL a V T L ∧ rMf a V n s ∧ rMt n T s
/-- what the class's objects see to -/
def sOk (n : Nat) (s : St) : Prop := (∀ i, i < tc s → fok (tn s i)) ∧ (∀ p k, p < n → k ≤ n → fok (tm s p k)) ∧ (∀ v, tv s = some v → v.1 = true → ∀ j, j < n → fok (v.2.2.2.2.2 j)) ∧ (tj s).1 < (tj s).2.1 ∧ (tj s).2.1 < 4294967296 ^ 6
/-- what a call leaves -/
def oX (Z : Hz) (a : Nat → Nat) (n : Nat) (V : Hv) (th : Int32) (x : St × Int32) : Int32 → Hs → Prop := fun r S' => r = x.2 ∧ ∃ V' T' L', S' = (Z, V') ∧ gM a V V' ∧ vI V' 9 6 (a 0) = th ∧ rMT a V' n T' L' x.1
/-- fractions that are no part of the state -/
def scr (c q : Nat) : Prop := (c ≤ q ∧ q < 40) ∨ (70 ≤ q ∧ q < 100) ∨ (105 ≤ q ∧ q < 111)
theorem vI9 (V : Hv) {k j b : Nat} {x : Int32} (h : k ≠ j) : vI (sI V 9 j b x) 9 k b = vI V 9 k b := vI_sI_ne _ _ (fun z => h z.2.1)
section MOD10
variable {Γ : Gm} {Z : Hz} {V V1 : Hv} {a : Nat → Nat} {L : Nat → Nat} {T : Nat → Fr} {f n : Nat} {s : St} {th : Int32}
theorem gM.ofM (h : e2A a V V1) : gM a V V1 := h.mono (fun _ _ _ z => z.elim) (fun b z => by rcases z with z | z; exact ⟨1, by decide, by decide, z⟩; exact ⟨2, by decide, by decide, z⟩)
theorem gM.setI (V : Hv) (k : Nat) (x : Int32) : gM a V (sI V 9 k (a 0) x) := eG.setI V x ⟨rfl, rfl⟩
theorem gM.setA (V : Hv) {k : Nat} (g : Nat → Int32) (h1 : 1 ≤ k) (h2 : k ≤ 11) : gM a V (sA V (a k) g) := eG.setA V g ⟨k, h1, h2, rfl⟩
theorem e2A.i (h : e2A a V V1) (ci k b : Nat) : vI V1 ci k b = vI V ci k b := h.1 ci k b (fun z => z)
theorem e2A.ar {k : Nat} (h : e2A a V V1) (hR : mR Z a) (h1 : 3 ≤ k) (h2 : k ≤ 11) : vA V1 (a k) = vA V (a k) := h.2.1 _ (fun z => by
  rcases z with z | z
  · exact hR.ne (by omega) h2 (by decide) (by decide) (by omega) z
  · exact hR.ne (by omega) h2 (by decide) (by decide) (by omega) z)
theorem oX.after {x : St × Int32} {r : Int32} {S' : Hs} (hg : gM a V V1) (h : oX Z a n V1 th x r S') : oX Z a n V th x r S' := by
  obtain ⟨h1, V', T', L', h2, h3, h4⟩ := h
  exact ⟨h1, V', T', L', h2, hg.trans h3, h4⟩
theorem oX.same {y : Int32} (hg : gM a V V1) (h : rMT a V1 n T L s) (ht : vI V1 9 6 (a 0) = th) : oX Z a n V th (s, y) y (Z, V1) := ⟨rfl, V1, T, L, rfl, hg, ht, h⟩
theorem rMv.of {o : Option Sv} (h : rMv a V n o) (hi : ∀ k, 7 ≤ k → k ≤ 9 → vI V1 9 k (a 0) = vI V 9 k (a 0)) (ha : ∀ k, 3 ≤ k → k ≤ 5 → vA V1 (a k) = vA V (a k)) : rMv a V1 n o := by
  refine ⟨by rw [hi 7 (by decide) (by decide)]; exact h.1, fun v hv => ?_⟩
  obtain ⟨h1, h2, h3, h4⟩ := h.2 v hv
  refine ⟨by rw [hi 8 (by decide) (by decide)]; exact h1, by rw [hi 9 (by decide) (by decide)]; exact h2, h3, fun p hp => ?_⟩
  rw [ha 3 (by decide) (by decide), ha 4 (by decide) (by decide), ha 5 (by decide) (by decide)]
  exact h4 p hp
theorem rMx.of {bs : List Nat} (h : rMx a V bs) (hi : vI V1 9 20 (a 0) = vI V 9 20 (a 0)) (ha : vA V1 (a 10) = vA V (a 10)) : rMx a V1 bs := by
  unfold rMx
  rw [hi, ha]
  exact h
theorem rMf.of (h : rMf a V n s) (hi : ∀ k, k ≠ 6 → k ≠ 17 → k ≠ 18 → vI V1 9 k (a 0) = vI V 9 k (a 0)) (ha : ∀ k, (3 ≤ k ∧ k ≤ 5) ∨ k = 10 → vA V1 (a k) = vA V (a k)) : rMf a V1 n s := by
  obtain ⟨⟨h1, h2, h3, h4, h5⟩, h6, h7⟩ := h
  exact ⟨⟨(hi 2 (by decide) (by decide) (by decide)).trans h1, (hi 3 (by decide) (by decide) (by decide)).trans h2, h3, (hi 4 (by decide) (by decide) (by decide)).trans h4, (hi 5 (by decide) (by decide) (by decide)).trans h5⟩, h6.of (fun k hk hk2 => hi k (by omega) (by omega) (by omega)) (fun k hk hk2 => ha k (Or.inl ⟨hk, hk2⟩)), h7.of (hi 20 (by decide) (by decide) (by decide)) (ha 10 (Or.inr rfl))⟩
theorem rMf.m (h : rMf a V n s) (hR : mR Z a) (hE : e2A a V V1) : rMf a V1 n s := h.of (fun k _ _ _ => hE.i 9 k (a 0)) (fun k h1 => hE.ar hR (by omega) (by omega))
theorem rMt.agree {T' : Nat → Fr} (h : rMt n T s) (hn : 1 ≤ n ∧ n ≤ 5) (hT : ∀ q, ¬ scr (tc s) q → T' q = T q) (hc : tc s ≤ 40) : rMt n T' s := by
  obtain ⟨h1, h2, h3, h4⟩ := h
  refine ⟨fun i hi => (hT i ?_).trans (h1 i hi), fun p k hp hk => (hT _ ?_).trans (h2 p k hp hk), fun v hv hv1 j hj => (hT _ ?_).trans (h3 v hv hv1 j hj), (hT 111 ?_).trans h4⟩
  · unfold scr; omega
  · unfold scr; omega
  · unfold scr; omega
  · unfold scr; omega
theorem rMT.view {T' : Nat → Fr} {L' : Nat → Nat} (h : rMT a V n T L s) (hR : mR Z a) (hE : e2A a V V1) (hL : mL a V1 T' L') (hT : ∀ q, ¬ scr (tc s) q → T' q = T q) : rMT a V1 n T' L' s := ⟨h.1, hL, h.2.2.1.m hR hE, h.2.2.2.agree h.1 hT h.2.2.1.1.2.2.1⟩
theorem rMT.up {L' : Nat → Nat} {x : Fr} {q : Nat} (h : rMT a V n T L s) (hR : mR Z a) (hE : e2A a V V1) (hL : mL a V1 (va_up T q x) L') (hq : scr (tc s) q) : rMT a V1 n (va_up T q x) L' s := h.view hR hE hL (fun j hj => up_ne _ _ (fun e => hj (e ▸ hq)))
theorem rMT.thr (h : rMT a V n T L s) (x : Int32) : rMT a (sI V 9 6 (a 0) x) n T L s := ⟨h.1, h.2.1, h.2.2.1.of (fun k hk _ _ => vI9 V hk) (fun k _ => rfl), h.2.2.2⟩
theorem inI_le (x : Int32) {n : Nat} (hn : n < 1000) : (decide (nI 0 ≤ x) && decide (x ≤ nI n)) = inI x (n + 1) := by
  unfold inI
  have h0 : (nI 0 : Int32) = 0 := rfl
  rw [h0]
  congr 1
  apply decide_eq_decide.mpr
  rw [Int32.lt_iff_toInt_lt, Int32.le_iff_toInt_le, nI_toInt (by omega), nI_toInt (by omega)]
  omega
theorem inI_m1 (x : Int32) {n : Nat} (hn : n < 1000) : (decide (nI 0 ≤ x) && decide (x ≤ nI n - nI 1)) = inI x n := by
  cases n with
  | zero =>
    unfold inI
    have h0 : (nI 0 : Int32) = 0 := rfl
    rw [h0]
    congr 1
    apply decide_eq_decide.mpr
    have e1 : ((0 : Int32) - nI 1).toInt = -1 := by decide
    have e2 : (0 : Int32).toInt = 0 := by decide
    rw [Int32.lt_iff_toInt_lt, Int32.le_iff_toInt_le, e1, e2]
    omega
  | succ n => rw [nI_km1]; exact inI_le x (by omega)
set_option maxRecDepth 100000 in
theorem m_isIn {S : Hs} (x lo hi : Int32) : zCt Γ mX10_isIn 0 0 0 0 [.int x, .int lo, .int hi] S (pZ (fun r S' => r = (decide (lo ≤ x) && decide (x ≤ hi)) ∧ S' = S)) := by
  refine zCt.of [some (.int x), some (.int lo), some (.int hi)] pn_X10_isIn rfl (Nat.le_of_ble_eq_true rfl) rfl (fun κ F => ?_)
  refine z_iload_n F dX10_isIn_0 rfl ?_
  refine z_iload_n F dX10_isIn_1 rfl ?_
  refine z_icmp_lt (tgt := 14) F dX10_isIn_2 (by decide) (fun c => ?_) (fun c => ?_)
  · have h : ¬ lo ≤ x := fun z => by rw [Int32.lt_iff_toInt_lt] at c; rw [Int32.le_iff_toInt_le] at z; omega
    refine z_iconst (v := nI 0) F dX10_isIn_14 (by decide) ?_
    exact z_zret F false dX10_isIn_15 rfl rfl ⟨by rw [decide_eq_false h]; rfl, rfl⟩
  · have h : lo ≤ x := Int32.le_iff_toInt_le.mpr (by have := mt Int32.lt_iff_toInt_lt.mpr c; omega)
    refine z_iload_n F dX10_isIn_5 rfl ?_
    refine z_iload_n F dX10_isIn_6 rfl ?_
    refine z_icmp_gt (tgt := 14) F dX10_isIn_7 (by decide) (fun c2 => ?_) (fun c2 => ?_)
    · have h2 : ¬ x ≤ hi := fun z => by have c3 := Int32.lt_iff_toInt_lt.mp c2; rw [Int32.le_iff_toInt_le] at z; omega
      refine z_iconst (v := nI 0) F dX10_isIn_14 (by decide) ?_
      exact z_zret F false dX10_isIn_15 rfl rfl ⟨by rw [decide_eq_false h2, Bool.and_false], rfl⟩
    · have h2 : x ≤ hi := Int32.le_iff_toInt_le.mpr (by have := mt Int32.lt_iff_toInt_lt.mpr c2; omega)
      refine z_iconst (v := nI 1) F dX10_isIn_10 (by decide) ?_
      refine z_goto (tgt := 15) F dX10_isIn_11 (by decide) ?_
      exact z_zret F true dX10_isIn_15 rfl rfl ⟨by rw [decide_eq_true h, decide_eq_true h2]; rfl, rfl⟩
set_option maxRecDepth 100000 in
theorem m_isNumber (x : Int32) (hR : mR Z a) (hM : rMT a V n T L s) : zCt Γ mX10_isNumber 1 22 0 0 [.ref (a 0), .int x] (Z, V) (pZ (q0 Z V (isN s x))) := by
  refine zCt.of [some (.ref (a 0)), some (.int x)] pn_X10_isNumber rfl (Nat.le_of_ble_eq_true rfl) rfl (fun κ F => ?_)
  obtain ⟨b0, -⟩ := hR.1
  have h3 := hM.2.2.1.1.2.1
  have h40 := hM.2.2.1.1.2.2.1
  refine z_iload_n F dX10_isNumber_0 rfl ?_
  refine z_iconst (v := nI 0) F dX10_isNumber_1 (by decide) ?_
  refine z_aload_n F dX10_isNumber_2 rfl ?_
  refine z_getI F dX10_isNumber_3 gi_X10_116 (by assumption) ?_
  refine z_ti h3 ?_
  refine z_iconst (v := nI 1) F dX10_isNumber_6 (by decide) ?_
  refine z_isub F dX10_isNumber_7 ?_
  refine z_cSz F (m_isIn x (nI 0) (nI (tc s) - nI 1)) dX10_isNumber_8 ml_X10_119 ok_X10_isIn rfl rfl rfl (Nat.le_of_ble_eq_true rfl) (by decide) (by decide) (fun r S' hr => ?_)
  obtain ⟨rfl, rfl⟩ := hr
  rw [inI_m1 x (show tc s < 1000 by omega)]
  exact z_zret F _ dX10_isNumber_11 rfl rfl ⟨rfl, rfl⟩
set_option maxRecDepth 100000 in
theorem m_isEntry (i j : Int32) (hR : mR Z a) (hM : rMT a V n T L s) : zCt Γ mX10_isEntry 1 22 0 0 [.ref (a 0), .int i, .int j] (Z, V) (pZ (q0 Z V (isE n i j))) := by
  refine zCt.of [some (.ref (a 0)), some (.int i), some (.int j)] pn_X10_isEntry rfl (Nat.le_of_ble_eq_true rfl) rfl (fun κ F => ?_)
  obtain ⟨b0, -⟩ := hR.1
  have h2 := hM.2.2.1.1.1
  have hn := hM.1
  refine z_iload_n F dX10_isEntry_0 rfl ?_
  refine z_iconst (v := nI 0) F dX10_isEntry_1 (by decide) ?_
  refine z_aload_n F dX10_isEntry_2 rfl ?_
  refine z_getI F dX10_isEntry_3 gi_X10_44 (by assumption) ?_
  refine z_ti h2 ?_
  refine z_iconst (v := nI 1) F dX10_isEntry_6 (by decide) ?_
  refine z_isub F dX10_isEntry_7 ?_
  refine z_cSz F (m_isIn i (nI 0) (nI n - nI 1)) dX10_isEntry_8 ml_X10_119 ok_X10_isIn rfl rfl rfl (Nat.le_of_ble_eq_true rfl) (by decide) (by decide) (fun r S' hr => ?_)
  obtain ⟨rfl, rfl⟩ := hr
  rw [inI_m1 i (show n < 1000 by omega)]
  refine z_if_eq (tgt := 30) F dX10_isEntry_11 (by decide) (fun c => ?_) (fun c => ?_)
  · have h := zb_f c
    refine z_iconst (v := nI 0) F dX10_isEntry_30 (by decide) ?_
    exact z_zret F false dX10_isEntry_31 rfl rfl ⟨by unfold isE; rw [Bool.eq_false_iff.mpr h]; rfl, rfl⟩
  · have h := zb_t c
    refine z_iload_n F dX10_isEntry_14 rfl ?_
    refine z_iconst (v := nI 0) F dX10_isEntry_15 (by decide) ?_
    refine z_aload_n F dX10_isEntry_16 rfl ?_
    refine z_getI F dX10_isEntry_17 gi_X10_44 (by assumption) ?_
    refine z_ti h2 ?_
    refine z_cSz F (m_isIn j (nI 0) (nI n)) dX10_isEntry_20 ml_X10_119 ok_X10_isIn rfl rfl rfl (Nat.le_of_ble_eq_true rfl) (by decide) (by decide) (fun r S' hr => ?_)
    obtain ⟨rfl, rfl⟩ := hr
    rw [inI_le j (show n < 1000 by omega)]
    refine z_if_eq (tgt := 30) F dX10_isEntry_23 (by decide) (fun c2 => ?_) (fun c2 => ?_)
    · have h2 := zb_f c2
      refine z_iconst (v := nI 0) F dX10_isEntry_30 (by decide) ?_
      exact z_zret F false dX10_isEntry_31 rfl rfl ⟨by unfold isE; rw [Bool.eq_false_iff.mpr h2, Bool.and_false], rfl⟩
    · have h2 := zb_t c2
      refine z_iconst (v := nI 1) F dX10_isEntry_26 (by decide) ?_
      refine z_goto (tgt := 31) F dX10_isEntry_27 (by decide) ?_
      exact z_zret F true dX10_isEntry_31 rfl rfl ⟨by unfold isE; rw [h, h2]; rfl, rfl⟩
set_option maxRecDepth 100000 in
theorem m_grew (hR : mR Z a) (hM : rMT a V n T L s) (ht : vI V 9 6 (a 0) = th) : zCt Γ mX10_grew 0 0 0 0 [.ref (a 0)] (Z, V) (pI (oX Z a n V th (grewF s))) := by
  refine zCt.of [some (.ref (a 0))] pn_X10_grew rfl (Nat.le_of_ble_eq_true rfl) rfl (fun κ F => ?_)
  obtain ⟨b0, -⟩ := hR.1
  obtain ⟨hn, hL, ⟨⟨i2, i3, i40, i4, i5⟩, hv, hx⟩, hT⟩ := hM
  have fin : rMT a (sI V 9 5 (a 0) (tg s + 1)) n T L (grewF s).1 := by
    refine ⟨hn, hL, ⟨⟨?_, ?_, i40, ?_, vI_sI_self _ _ _ _ _⟩, ?_, ?_⟩, hT⟩
    · rw [vI9 V (by decide)]; exact i2
    · rw [vI9 V (by decide)]; exact i3
    · rw [vI9 V (by decide)]; exact i4
    · exact hv.of (fun k h1 h2 => vI9 V (by omega)) (fun k _ _ => rfl)
    · exact hx.of (vI9 V (by decide)) rfl
  have ht' : vI (sI V 9 5 (a 0) (tg s + 1)) 9 6 (a 0) = th := by rw [vI9 V (by decide)]; exact ht
  refine z_aload_n F dX10_grew_0 rfl ?_
  refine z_dup F dX10_grew_1 rfl ?_
  refine z_getI F dX10_grew_2 gi_X10_123 (by assumption) ?_
  refine z_ti i5 ?_
  refine z_iconst (v := nI 1) F dX10_grew_5 (by decide) ?_
  refine z_iadd F dX10_grew_6 ?_
  refine z_putI F dX10_grew_7 pi_X10_123 (zf_9_5 _) (by assumption) ?_
  refine z_bipush (v := (-3)) F dX10_grew_10 (by decide) ?_
  exact z_iret F dX10_grew_12 rfl ⟨rfl, _, _, _, rfl, gM.setI V _ _, ht', fin⟩
set_option maxRecDepth 100000 in
theorem m_kept (hR : mR Z a) (hM : rMT a V n T L s) (ht : vI V 9 6 (a 0) = th) (h40 : tc s < 40) : zCt Γ mX10_kept 0 0 0 0 [.ref (a 0)] (Z, V) (pI (oX Z a n V th (keepF s (T (tc s))))) := by
  refine zCt.of [some (.ref (a 0))] pn_X10_kept rfl (Nat.le_of_ble_eq_true rfl) rfl (fun κ F => ?_)
  obtain ⟨b0, -⟩ := hR.1
  obtain ⟨hn, hL, ⟨⟨i2, i3, i40, i4, i5⟩, hv, hx⟩, h1, h2, h3, h4⟩ := hM
  have fin : rMT a (sI V 9 3 (a 0) (nI (tc s + 1))) n T L (keepF s (T (tc s))).1 := by
    refine ⟨hn, hL, ⟨⟨?_, vI_sI_self _ _ _ _ _, h40, ?_, ?_⟩, ?_, ?_⟩, fun i hi => ?_, h2, h3, h4⟩
    · rw [vI9 V (by decide)]; exact i2
    · rw [vI9 V (by decide)]; exact i4
    · rw [vI9 V (by decide)]; exact i5
    · exact hv.of (fun k h1 h2 => vI9 V (by omega)) (fun k _ _ => rfl)
    · exact hx.of (vI9 V (by decide)) rfl
    · show T i = va_up (tn s) (tc s) (T (tc s)) i
      have hi' : i < tc s + 1 := hi
      by_cases e : i = tc s
      · rw [e, up_self]
      · rw [up_ne _ _ e]; exact h1 i (by omega)
  have ht' : vI (sI V 9 3 (a 0) (nI (tc s + 1))) 9 6 (a 0) = th := by rw [vI9 V (by decide)]; exact ht
  refine z_aload_n F dX10_kept_0 rfl ?_
  refine z_dup F dX10_kept_1 rfl ?_
  refine z_getI F dX10_kept_2 gi_X10_116 (by assumption) ?_
  refine z_ti i3 ?_
  refine z_iconst (v := nI 1) F dX10_kept_5 (by decide) ?_
  refine z_iadd F dX10_kept_6 ?_
  refine z_ti (nI_add _ 1) ?_
  refine z_putI F dX10_kept_7 pi_X10_116 (zf_9_3 _) (by assumption) ?_
  refine z_aload_n F dX10_kept_10 rfl ?_
  refine z_getI F dX10_kept_11 gi_X10_116 (by assumption) ?_
  refine z_ti (vI_sI_self _ _ _ _ _) ?_
  refine z_iconst (v := nI 1) F dX10_kept_14 (by decide) ?_
  refine z_isub F dX10_kept_15 ?_
  refine z_ti (nI_km1 _) ?_
  exact z_iret F dX10_kept_16 rfl ⟨rfl, _, _, _, rfl, gM.setI V _ _, ht', fin⟩
set_option maxRecDepth 100000 in
theorem m_asNumber (hR : mR Z a) (hM : rMT a V n T L s) (ht : vI V 9 6 (a 0) = th) (h40 : tc s < 40) (hf : f < 112) : zCt Γ mX10_asNumber 2 45 0 0 [.ref (a 0), .int (nI f)] (Z, V) (pI (oX Z a n V th (keepF s (T f)))) := by
  refine zCt.of [some (.ref (a 0)), some (.int (nI f))] pn_X10_asNumber rfl (Nat.le_of_ble_eq_true rfl) rfl (fun κ F => ?_)
  obtain ⟨b0, -⟩ := hR.1
  have h3 := hM.2.2.1.1.2.1
  refine z_aload_n F dX10_asNumber_0 rfl ?_
  refine z_iload_n F dX10_asNumber_1 rfl ?_
  refine z_aload_n F dX10_asNumber_2 rfl ?_
  refine z_getI F dX10_asNumber_3 gi_X10_116 (by assumption) ?_
  refine z_ti h3 ?_
  refine z_cVv F (m_same (g := tc s) hR hM.2.1 hf (by omega)) dX10_asNumber_6 ml_X10_126 ok_X10_same b0 (by decide) rfl rfl rfl (Nat.le_of_ble_eq_true rfl) (by decide) (by decide) (fun S' hS' => ?_)
  obtain ⟨V1, L1, rfl, hE1, hL1⟩ := hS'
  have hM1 := hM.up hR hE1 hL1 (Or.inl ⟨Nat.le_refl _, h40⟩)
  refine z_aload_n F dX10_asNumber_9 rfl ?_
  refine z_cVi F (m_kept (th := th) hR hM1 (by rw [hE1.i]; exact ht) h40) dX10_asNumber_10 ml_X10_129 ok_X10_kept b0 (by decide) rfl rfl rfl (Nat.le_of_ble_eq_true rfl) (by decide) (by decide) (fun r S' hr => ?_)
  rw [up_self] at hr
  exact z_iret F dX10_asNumber_13 rfl (oX.after (gM.ofM hE1) hr)
end MOD10
