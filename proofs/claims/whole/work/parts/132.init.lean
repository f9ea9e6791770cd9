/-! ===== constructors: Whole, Fraction, arrays of Fractions, Arithmetic ===== -/
theorem pf_X8_9 : zPF RX8 9 7 0 := ⟨⟨_, _, _, rfl, by decide, by decide, fl_X8_9, rfl, rfl⟩, fun q h => by cases h; exact ⟨rfl, rfl⟩⟩
theorem pf_X3_10 : zPF RX3 10 3 0 := ⟨⟨_, _, _, rfl, by decide, by decide, fl_X3_10, rfl, rfl⟩, fun q h => by cases h; exact ⟨rfl, rfl⟩⟩
theorem pf_X3_16 : zPF RX3 16 3 1 := ⟨⟨_, _, _, rfl, by decide, by decide, fl_X3_16, rfl, rfl⟩, fun q h => by cases h; exact ⟨rfl, rfl⟩⟩
theorem pf_X0_10 : zPF RX0 10 0 0 := ⟨⟨_, _, _, rfl, by decide, by decide, fl_X0_10, rfl, rfl⟩, fun q h => by cases h; exact ⟨rfl, rfl⟩⟩
theorem pf_X0_16 : zPF RX0 16 0 1 := ⟨⟨_, _, _, rfl, by decide, by decide, fl_X0_16, rfl, rfl⟩, fun q h => by cases h; exact ⟨rfl, rfl⟩⟩
theorem pf_X0_19 : zPF RX0 19 0 2 := ⟨⟨_, _, _, rfl, by decide, by decide, fl_X0_19, rfl, rfl⟩, fun q h => by cases h; exact ⟨rfl, rfl⟩⟩
theorem pf_X0_22 : zPF RX0 22 0 3 := ⟨⟨_, _, _, rfl, by decide, by decide, fl_X0_22, rfl, rfl⟩, fun q h => by cases h; exact ⟨rfl, rfl⟩⟩
theorem pf_X0_25 : zPF RX0 25 0 4 := ⟨⟨_, _, _, rfl, by decide, by decide, fl_X0_25, rfl, rfl⟩, fun q h => by cases h; exact ⟨rfl, rfl⟩⟩
theorem pf_X0_28 : zPF RX0 28 0 5 := ⟨⟨_, _, _, rfl, by decide, by decide, fl_X0_28, rfl, rfl⟩, fun q h => by cases h; exact ⟨rfl, rfl⟩⟩
theorem pf_X0_31 : zPF RX0 31 0 6 := ⟨⟨_, _, _, rfl, by decide, by decide, fl_X0_31, rfl, rfl⟩, fun q h => by cases h; exact ⟨rfl, rfl⟩⟩
theorem pf_X0_34 : zPF RX0 34 0 7 := ⟨⟨_, _, _, rfl, by decide, by decide, fl_X0_34, rfl, rfl⟩, fun q h => by cases h; exact ⟨rfl, rfl⟩⟩
theorem pf_X0_37 : zPF RX0 37 0 8 := ⟨⟨_, _, _, rfl, by decide, by decide, fl_X0_37, rfl, rfl⟩, fun q h => by cases h; exact ⟨rfl, rfl⟩⟩
theorem pf_X0_40 : zPF RX0 40 0 9 := ⟨⟨_, _, _, rfl, by decide, by decide, fl_X0_40, rfl, rfl⟩, fun q h => by cases h; exact ⟨rfl, rfl⟩⟩
theorem pf_X0_43 : zPF RX0 43 0 10 := ⟨⟨_, _, _, rfl, by decide, by decide, fl_X0_43, rfl, rfl⟩, fun q h => by cases h; exact ⟨rfl, rfl⟩⟩
theorem pf_X0_46 : zPF RX0 46 0 11 := ⟨⟨_, _, _, rfl, by decide, by decide, fl_X0_46, rfl, rfl⟩, fun q h => by cases h; exact ⟨rfl, rfl⟩⟩
theorem pf_X2_10 : zPF RX2 10 2 5 := ⟨⟨_, _, _, rfl, by decide, by decide, fl_X2_10, rfl, rfl⟩, fun q h => by cases h; exact ⟨rfl, rfl⟩⟩
theorem pf_X2_16 : zPF RX2 16 2 6 := ⟨⟨_, _, _, rfl, by decide, by decide, fl_X2_16, rfl, rfl⟩, fun q h => by cases h; exact ⟨rfl, rfl⟩⟩
theorem pf_X2_19 : zPF RX2 19 2 0 := ⟨⟨_, _, _, rfl, by decide, by decide, fl_X2_19, rfl, rfl⟩, fun q h => by cases h; exact ⟨rfl, rfl⟩⟩
theorem pf_X2_23 : zPF RX2 23 2 1 := ⟨⟨_, _, _, rfl, by decide, by decide, fl_X2_23, rfl, rfl⟩, fun q h => by cases h; exact ⟨rfl, rfl⟩⟩
theorem pf_X2_31 : zPF RX2 31 2 2 := ⟨⟨_, _, _, rfl, by decide, by decide, fl_X2_31, rfl, rfl⟩, fun q h => by cases h; exact ⟨rfl, rfl⟩⟩
theorem pf_X2_35 : zPF RX2 35 2 3 := ⟨⟨_, _, _, rfl, by decide, by decide, fl_X2_35, rfl, rfl⟩, fun q h => by cases h; exact ⟨rfl, rfl⟩⟩
theorem pf_X2_39 : zPF RX2 39 2 4 := ⟨⟨_, _, _, rfl, by decide, by decide, fl_X2_39, rfl, rfl⟩, fun q h => by cases h; exact ⟨rfl, rfl⟩⟩
theorem pf_X1_10 : zPF RX1 10 1 3 := ⟨⟨_, _, _, rfl, by decide, by decide, fl_X1_10, rfl, rfl⟩, fun q h => by cases h; exact ⟨rfl, rfl⟩⟩
theorem pf_X1_16 : zPF RX1 16 1 0 := ⟨⟨_, _, _, rfl, by decide, by decide, fl_X1_16, rfl, rfl⟩, fun q h => by cases h; exact ⟨rfl, rfl⟩⟩
theorem pf_X1_20 : zPF RX1 20 1 1 := ⟨⟨_, _, _, rfl, by decide, by decide, fl_X1_20, rfl, rfl⟩, fun q h => by cases h; exact ⟨rfl, rfl⟩⟩
theorem pf_X1_24 : zPF RX1 24 1 2 := ⟨⟨_, _, _, rfl, by decide, by decide, fl_X1_24, rfl, rfl⟩, fun q h => by cases h; exact ⟨rfl, rfl⟩⟩
theorem pf_X6_10 : zPF RX6 10 5 6 := ⟨⟨_, _, _, rfl, by decide, by decide, fl_X6_10, rfl, rfl⟩, fun q h => by cases h; exact ⟨rfl, rfl⟩⟩
theorem pf_X6_16 : zPF RX6 16 5 7 := ⟨⟨_, _, _, rfl, by decide, by decide, fl_X6_16, rfl, rfl⟩, fun q h => by cases h; exact ⟨rfl, rfl⟩⟩
theorem pf_X6_19 : zPF RX6 19 5 0 := ⟨⟨_, _, _, rfl, by decide, by decide, fl_X6_19, rfl, rfl⟩, fun q h => by cases h; exact ⟨rfl, rfl⟩⟩
theorem pf_X6_23 : zPF RX6 23 5 1 := ⟨⟨_, _, _, rfl, by decide, by decide, fl_X6_23, rfl, rfl⟩, fun q h => by cases h; exact ⟨rfl, rfl⟩⟩
theorem pf_X6_27 : zPF RX6 27 5 2 := ⟨⟨_, _, _, rfl, by decide, by decide, fl_X6_27, rfl, rfl⟩, fun q h => by cases h; exact ⟨rfl, rfl⟩⟩
theorem pf_X6_31 : zPF RX6 31 5 3 := ⟨⟨_, _, _, rfl, by decide, by decide, fl_X6_31, rfl, rfl⟩, fun q h => by cases h; exact ⟨rfl, rfl⟩⟩
theorem pf_X6_34 : zPF RX6 34 5 4 := ⟨⟨_, _, _, rfl, by decide, by decide, fl_X6_34, rfl, rfl⟩, fun q h => by cases h; exact ⟨rfl, rfl⟩⟩
theorem pf_X6_41 : zPF RX6 41 5 5 := ⟨⟨_, _, _, rfl, by decide, by decide, fl_X6_41, rfl, rfl⟩, fun q h => by cases h; exact ⟨rfl, rfl⟩⟩
theorem pf_X4_10 : zPF RX4 10 4 1 := ⟨⟨_, _, _, rfl, by decide, by decide, fl_X4_10, rfl, rfl⟩, fun q h => by cases h; exact ⟨rfl, rfl⟩⟩
theorem pf_X4_16 : zPF RX4 16 4 2 := ⟨⟨_, _, _, rfl, by decide, by decide, fl_X4_16, rfl, rfl⟩, fun q h => by cases h; exact ⟨rfl, rfl⟩⟩
theorem pf_X4_19 : zPF RX4 19 4 3 := ⟨⟨_, _, _, rfl, by decide, by decide, fl_X4_19, rfl, rfl⟩, fun q h => by cases h; exact ⟨rfl, rfl⟩⟩
theorem pf_X4_22 : zPF RX4 22 4 4 := ⟨⟨_, _, _, rfl, by decide, by decide, fl_X4_22, rfl, rfl⟩, fun q h => by cases h; exact ⟨rfl, rfl⟩⟩
theorem pf_X4_25 : zPF RX4 25 4 5 := ⟨⟨_, _, _, rfl, by decide, by decide, fl_X4_25, rfl, rfl⟩, fun q h => by cases h; exact ⟨rfl, rfl⟩⟩
theorem pf_X4_28 : zPF RX4 28 4 6 := ⟨⟨_, _, _, rfl, by decide, by decide, fl_X4_28, rfl, rfl⟩, fun q h => by cases h; exact ⟨rfl, rfl⟩⟩
theorem pf_X4_31 : zPF RX4 31 4 7 := ⟨⟨_, _, _, rfl, by decide, by decide, fl_X4_31, rfl, rfl⟩, fun q h => by cases h; exact ⟨rfl, rfl⟩⟩
theorem pf_X4_34 : zPF RX4 34 4 8 := ⟨⟨_, _, _, rfl, by decide, by decide, fl_X4_34, rfl, rfl⟩, fun q h => by cases h; exact ⟨rfl, rfl⟩⟩
theorem pf_X4_37 : zPF RX4 37 4 0 := ⟨⟨_, _, _, rfl, by decide, by decide, fl_X4_37, rfl, rfl⟩, fun q h => by cases h; exact ⟨rfl, rfl⟩⟩
theorem pf_X7_10 : zPF RX7 10 6 1 := ⟨⟨_, _, _, rfl, by decide, by decide, fl_X7_10, rfl, rfl⟩, fun q h => by cases h; exact ⟨rfl, rfl⟩⟩
theorem pf_X7_16 : zPF RX7 16 6 2 := ⟨⟨_, _, _, rfl, by decide, by decide, fl_X7_16, rfl, rfl⟩, fun q h => by cases h; exact ⟨rfl, rfl⟩⟩
theorem pf_X7_19 : zPF RX7 19 6 3 := ⟨⟨_, _, _, rfl, by decide, by decide, fl_X7_19, rfl, rfl⟩, fun q h => by cases h; exact ⟨rfl, rfl⟩⟩
theorem pf_X7_22 : zPF RX7 22 6 4 := ⟨⟨_, _, _, rfl, by decide, by decide, fl_X7_22, rfl, rfl⟩, fun q h => by cases h; exact ⟨rfl, rfl⟩⟩
theorem pf_X7_26 : zPF RX7 26 6 0 := ⟨⟨_, _, _, rfl, by decide, by decide, fl_X7_26, rfl, rfl⟩, fun q h => by cases h; exact ⟨rfl, rfl⟩⟩
theorem pf_X9_21 : zPF RX9 21 8 0 := ⟨⟨_, _, _, rfl, by decide, by decide, fl_X9_21, rfl, rfl⟩, fun q h => by cases h; exact ⟨rfl, rfl⟩⟩
theorem pf_X9_25 : zPF RX9 25 8 1 := ⟨⟨_, _, _, rfl, by decide, by decide, fl_X9_25, rfl, rfl⟩, fun q h => by cases h; exact ⟨rfl, rfl⟩⟩
theorem pf_X9_35 : zPF RX9 35 8 2 := ⟨⟨_, _, _, rfl, by decide, by decide, fl_X9_35, rfl, rfl⟩, fun q h => by cases h; exact ⟨rfl, rfl⟩⟩
theorem pf_X9_39 : zPF RX9 39 8 3 := ⟨⟨_, _, _, rfl, by decide, by decide, fl_X9_39, rfl, rfl⟩, fun q h => by cases h; exact ⟨rfl, rfl⟩⟩
theorem pf_X9_47 : zPF RX9 47 8 4 := ⟨⟨_, _, _, rfl, by decide, by decide, fl_X9_47, rfl, rfl⟩, fun q h => by cases h; exact ⟨rfl, rfl⟩⟩
theorem pf_X9_54 : zPF RX9 54 8 5 := ⟨⟨_, _, _, rfl, by decide, by decide, fl_X9_54, rfl, rfl⟩, fun q h => by cases h; exact ⟨rfl, rfl⟩⟩
theorem pf_X9_61 : zPF RX9 61 8 6 := ⟨⟨_, _, _, rfl, by decide, by decide, fl_X9_61, rfl, rfl⟩, fun q h => by cases h; exact ⟨rfl, rfl⟩⟩
theorem pf_X9_70 : zPF RX9 70 8 7 := ⟨⟨_, _, _, rfl, by decide, by decide, fl_X9_70, rfl, rfl⟩, fun q h => by cases h; exact ⟨rfl, rfl⟩⟩
theorem pf_X9_77 : zPF RX9 77 8 8 := ⟨⟨_, _, _, rfl, by decide, by decide, fl_X9_77, rfl, rfl⟩, fun q h => by cases h; exact ⟨rfl, rfl⟩⟩
theorem pf_X10_7 : zPF RX10 7 9 0 := ⟨⟨_, _, _, rfl, by decide, by decide, fl_X10_7, rfl, rfl⟩, fun q h => by cases h; exact ⟨rfl, rfl⟩⟩
theorem pf_X10_13 : zPF RX10 13 9 1 := ⟨⟨_, _, _, rfl, by decide, by decide, fl_X10_13, rfl, rfl⟩, fun q h => by cases h; exact ⟨rfl, rfl⟩⟩
theorem pf_X10_17 : zPF RX10 17 9 10 := ⟨⟨_, _, _, rfl, by decide, by decide, fl_X10_17, rfl, rfl⟩, fun q h => by cases h; exact ⟨rfl, rfl⟩⟩
theorem pf_X10_20 : zPF RX10 20 9 11 := ⟨⟨_, _, _, rfl, by decide, by decide, fl_X10_20, rfl, rfl⟩, fun q h => by cases h; exact ⟨rfl, rfl⟩⟩
theorem pf_X10_23 : zPF RX10 23 9 12 := ⟨⟨_, _, _, rfl, by decide, by decide, fl_X10_23, rfl, rfl⟩, fun q h => by cases h; exact ⟨rfl, rfl⟩⟩
theorem pf_X10_26 : zPF RX10 26 9 13 := ⟨⟨_, _, _, rfl, by decide, by decide, fl_X10_26, rfl, rfl⟩, fun q h => by cases h; exact ⟨rfl, rfl⟩⟩
theorem pf_X10_29 : zPF RX10 29 9 14 := ⟨⟨_, _, _, rfl, by decide, by decide, fl_X10_29, rfl, rfl⟩, fun q h => by cases h; exact ⟨rfl, rfl⟩⟩
theorem pf_X10_32 : zPF RX10 32 9 15 := ⟨⟨_, _, _, rfl, by decide, by decide, fl_X10_32, rfl, rfl⟩, fun q h => by cases h; exact ⟨rfl, rfl⟩⟩
theorem pf_X10_35 : zPF RX10 35 9 16 := ⟨⟨_, _, _, rfl, by decide, by decide, fl_X10_35, rfl, rfl⟩, fun q h => by cases h; exact ⟨rfl, rfl⟩⟩
theorem pf_X10_38 : zPF RX10 38 9 19 := ⟨⟨_, _, _, rfl, by decide, by decide, fl_X10_38, rfl, rfl⟩, fun q h => by cases h; exact ⟨rfl, rfl⟩⟩
theorem pf_X10_41 : zPF RX10 41 9 21 := ⟨⟨_, _, _, rfl, by decide, by decide, fl_X10_41, rfl, rfl⟩, fun q h => by cases h; exact ⟨rfl, rfl⟩⟩
theorem pf_X10_44 : zPF RX10 44 9 2 := ⟨⟨_, _, _, rfl, by decide, by decide, fl_X10_44, rfl, rfl⟩, fun q h => by cases h; exact ⟨rfl, rfl⟩⟩

section NEWC
variable {S S1 S2 : Hs} {o o1 a q c k ci N : Nat} {ow ow1 ow2 : Ow} {val val1 val2 : Nat → Nat} {x : Int32}
theorem zpN_L (Z : Hz) (q ci N a : Nat) : a ∈ zL (zpN Z q ci N) ↔ a ∈ zL Z ∨ a = q := by
  show a ∈ zL Z ++ [q] ↔ _
  rw [List.mem_append, List.mem_singleton]
theorem zpN_k (Z : Hz) {q ci N a : Nat} (h : a ≠ q) : zK (zpN Z q ci N) a = zK Z a := up_ne _ _ h
theorem zpN_k' (Z : Hz) (q ci N : Nat) : zK (zpN Z q ci N) q = ci := up_self _ _ _
theorem zpN_n (Z : Hz) {q ci N a : Nat} (h : a ≠ q) : zn (zpN Z q ci N) a = zn Z a := up_ne _ _ h
theorem zpN_n' (Z : Hz) (q ci N : Nat) : zn (zpN Z q ci N) q = N := up_self _ _ _
theorem zpN_r (Z : Hz) {q ci N a : Nat} (h : a ≠ q) (c k : Nat) : zR (zpN Z q ci N) c k a = zR Z c k a := by simp only [zpN, zR]; rw [if_neg h]
theorem zpN_r' (Z : Hz) (q ci N c k : Nat) : zR (zpN Z q ci N) c k q = none := by simp only [zpN, zR, if_true]
theorem zpN_A (Z : Hz) {q ci N a : Nat} (h : a ≠ q) : zA (zpN Z q ci N) a = zA Z a := up_ne _ _ h
theorem zpN_A' (Z : Hz) (q ci N : Nat) : zA (zpN Z q ci N) q = fun _ => none := up_self _ _ _
theorem vpN_i (V : Hv) {q a : Nat} (h : a ≠ q) (c k : Nat) : vI (vpN V q) c k a = vI V c k a := by simp only [vpN, vI]; rw [if_neg h]
theorem vpN_i' (V : Hv) (q c k : Nat) : vI (vpN V q) c k q = 0 := by simp only [vpN, vI, if_true]
theorem vpN_A (V : Hv) {q a : Nat} (h : a ≠ q) : vA (vpN V q) a = vA V a := up_ne _ _ h
theorem vpN_A' (V : Hv) (q : Nat) : vA (vpN V q) q = fun _ => 0 := up_self _ _ _
theorem vpN_J (V : Hv) {q a : Nat} (h : a ≠ q) : vJ (vpN V q) a = vJ V a := up_ne _ _ h
theorem rf_new (Z : Hz) {q ci N a : Nat} (h : a ≠ q) (k : Nat) : rf (zpN Z q ci N) a k = rf Z a k := by
  unfold rf
  rw [zpN_k _ h, zpN_A _ h, zpN_r _ h]
theorem rf_new' (Z : Hz) (q ci N k : Nat) : rf (zpN Z q ci N) q k = none := by
  unfold rf
  rw [zpN_A', zpN_r']
  split <;> rfl
theorem CI.new (h : CI S ow val) (hq : q ∉ zL S.1) (ci N : Nat) : CI (zpN S.1 q ci N, vpN S.2 q) (va_up ow q none) (va_up val q 0) := by
  refine ⟨fun a j r ha hr => ?_, fun x g w => ?_, fun b a j hb hw => ?_⟩
  · by_cases e : a = q
    · rw [e, rf_new'] at hr; cases hr
    · have hr' : rf S.1 a j = some r := by rw [← rf_new (q := q) (ci := ci) (N := N) S.1 e]; exact hr
      have ha' : a ∈ zL S.1 := ((zpN_L _ _ _ _ _).mp ha).resolve_right e
      obtain ⟨m1, m2⟩ := h.1 a j r ha' hr'
      have hrq : r ≠ q := fun z => hq (z ▸ m1)
      exact ⟨(zpN_L _ _ _ _ _).mpr (Or.inl m1), by rw [zpN_k _ hrq, up_ne _ _ hrq]; exact m2⟩
  · obtain ⟨w1, w2, w3, w4⟩ := w
    have e : x ≠ q := fun z => by rw [z, zpN_r'] at w2; cases w2
    have hx : x ∈ zL S.1 := ((zpN_L _ _ _ _ _).mp w1.1).resolve_right e
    have w2' : zR S.1 7 0 x = some g := by rw [← zpN_r (q := q) (ci := ci) (N := N) S.1 e]; exact w2
    have k7 : zK S.1 x = 7 := by rw [← zpN_k (q := q) (ci := ci) (N := N) S.1 e]; exact w1.2
    have hg : g ∈ zL S.1 := (h.1 x 0 g hx (by unfold rf; rw [k7]; exact w2')).1
    have hgq : g ≠ q := fun z => hq (z ▸ hg)
    have hv := h.2.1 x g ⟨⟨hx, k7⟩, w2', ⟨hg, by rw [← zpN_k (q := q) (ci := ci) (N := N) S.1 hgq]; exact w3.2⟩, by rw [← zpN_n (q := q) (ci := ci) (N := N) S.1 hgq]; exact w4⟩
    refine ⟨?_, ?_⟩
    · rw [up_ne _ _ e]
      show vl (vA (vpN S.2 q) g) 16 = _
      rw [vpN_A _ hgq]; exact hv.1
    · rw [up_ne _ _ e]
      show vI (vpN S.2 q) 7 1 x = _
      rw [vpN_i _ e]; exact hv.2
  · by_cases e : b = q
    · rw [e, up_self] at hw; cases hw
    · rw [up_ne _ _ e] at hw
      exact (zpN_L _ _ _ _ _).mpr (Or.inl (h.2.2 b a j (((zpN_L _ _ _ _ _).mp hb).resolve_right e) hw))
theorem FIN.kd {Z : Hz} {V : Hv} (h : zK Z a = 8 ∨ zK Z a = 9 ∨ zK Z a = 10 ∨ zK Z a = 11 ∨ zK Z a = 12 ∨ zK Z a = 14) : FIN Z V val a := ⟨fun e => by omega, fun e => by omega, fun e => by omega, fun e => by omega, fun e => by omega, fun e => by omega, fun e => by omega, fun e => by omega, fun e => by omega⟩
theorem FIN.of7 {Z : Hz} {V : Hv} (hk : zK Z a = 7) (h : iW Z a) : FIN Z V val a := ⟨fun _ => h, fun e => absurd (hk.symm.trans e) (by decide), fun e => absurd (hk.symm.trans e) (by decide), fun e => absurd (hk.symm.trans e) (by decide), fun e => absurd (hk.symm.trans e) (by decide), fun e => absurd (hk.symm.trans e) (by decide), fun e => absurd (hk.symm.trans e) (by decide), fun e => absurd (hk.symm.trans e) (by decide), fun e => absurd (hk.symm.trans e) (by decide)⟩
theorem FIN.of3 {Z : Hz} {V : Hv} (hk : zK Z a = 3) (h : fin3 Z V val a) : FIN Z V val a := ⟨fun e => absurd (hk.symm.trans e) (by decide), fun _ => h, fun e => absurd (hk.symm.trans e) (by decide), fun e => absurd (hk.symm.trans e) (by decide), fun e => absurd (hk.symm.trans e) (by decide), fun e => absurd (hk.symm.trans e) (by decide), fun e => absurd (hk.symm.trans e) (by decide), fun e => absurd (hk.symm.trans e) (by decide), fun e => absurd (hk.symm.trans e) (by decide)⟩
theorem FIN.of0 {Z : Hz} {V : Hv} (hk : zK Z a = 0) (h : ∀ k, k < 12 → ∃ q, zR Z 0 k a = some q ∧ zIn Z q 7) : FIN Z V val a := ⟨fun e => absurd (hk.symm.trans e) (by decide), fun e => absurd (hk.symm.trans e) (by decide), fun _ => h, fun e => absurd (hk.symm.trans e) (by decide), fun e => absurd (hk.symm.trans e) (by decide), fun e => absurd (hk.symm.trans e) (by decide), fun e => absurd (hk.symm.trans e) (by decide), fun e => absurd (hk.symm.trans e) (by decide), fun e => absurd (hk.symm.trans e) (by decide)⟩
theorem FIN.of13 {Z : Hz} {V : Hv} (hk : zK Z a = 13) (h : ∀ i, i < zn Z a → ∃ q, zA Z a i = some q ∧ zIn Z q 3) : FIN Z V val a := ⟨fun e => absurd (hk.symm.trans e) (by decide), fun e => absurd (hk.symm.trans e) (by decide), fun e => absurd (hk.symm.trans e) (by decide), fun _ => h, fun e => absurd (hk.symm.trans e) (by decide), fun e => absurd (hk.symm.trans e) (by decide), fun e => absurd (hk.symm.trans e) (by decide), fun e => absurd (hk.symm.trans e) (by decide), fun e => absurd (hk.symm.trans e) (by decide)⟩
theorem FIN.of2 {Z : Hz} {V : Hv} (hk : zK Z a = 2) (h : fin2 Z V a) : FIN Z V val a := ⟨fun e => absurd (hk.symm.trans e) (by decide), fun e => absurd (hk.symm.trans e) (by decide), fun e => absurd (hk.symm.trans e) (by decide), fun e => absurd (hk.symm.trans e) (by decide), fun _ => h, fun e => absurd (hk.symm.trans e) (by decide), fun e => absurd (hk.symm.trans e) (by decide), fun e => absurd (hk.symm.trans e) (by decide), fun e => absurd (hk.symm.trans e) (by decide)⟩
theorem FIN.of1 {Z : Hz} {V : Hv} (hk : zK Z a = 1) (h : fin1 Z V a) : FIN Z V val a := ⟨fun e => absurd (hk.symm.trans e) (by decide), fun e => absurd (hk.symm.trans e) (by decide), fun e => absurd (hk.symm.trans e) (by decide), fun e => absurd (hk.symm.trans e) (by decide), fun e => absurd (hk.symm.trans e) (by decide), fun _ => h, fun e => absurd (hk.symm.trans e) (by decide), fun e => absurd (hk.symm.trans e) (by decide), fun e => absurd (hk.symm.trans e) (by decide)⟩
theorem FIN.of5 {Z : Hz} {V : Hv} (hk : zK Z a = 5) (h : fin5 Z V a) : FIN Z V val a := ⟨fun e => absurd (hk.symm.trans e) (by decide), fun e => absurd (hk.symm.trans e) (by decide), fun e => absurd (hk.symm.trans e) (by decide), fun e => absurd (hk.symm.trans e) (by decide), fun e => absurd (hk.symm.trans e) (by decide), fun e => absurd (hk.symm.trans e) (by decide), fun _ => h, fun e => absurd (hk.symm.trans e) (by decide), fun e => absurd (hk.symm.trans e) (by decide)⟩
theorem FIN.of4 {Z : Hz} {V : Hv} (hk : zK Z a = 4) (h : fin4 Z V val a) : FIN Z V val a := ⟨fun e => absurd (hk.symm.trans e) (by decide), fun e => absurd (hk.symm.trans e) (by decide), fun e => absurd (hk.symm.trans e) (by decide), fun e => absurd (hk.symm.trans e) (by decide), fun e => absurd (hk.symm.trans e) (by decide), fun e => absurd (hk.symm.trans e) (by decide), fun e => absurd (hk.symm.trans e) (by decide), fun _ => h, fun e => absurd (hk.symm.trans e) (by decide)⟩
theorem FIN.of6 {Z : Hz} {V : Hv} (hk : zK Z a = 6) (h : fin6 Z V val a) : FIN Z V val a := ⟨fun e => absurd (hk.symm.trans e) (by decide), fun e => absurd (hk.symm.trans e) (by decide), fun e => absurd (hk.symm.trans e) (by decide), fun e => absurd (hk.symm.trans e) (by decide), fun e => absurd (hk.symm.trans e) (by decide), fun e => absurd (hk.symm.trans e) (by decide), fun e => absurd (hk.symm.trans e) (by decide), fun e => absurd (hk.symm.trans e) (by decide), fun _ => h⟩
/-- a new cell, and then what finishes it -/
theorem Gr.mk (hq : q ∉ zL S.1) (h : Gr (zpN S.1 q ci N, vpN S.2 q) S2 q (va_up ow q none) ow2 (va_up val q 0) val2) (hf : FIN S2.1 S2.2 val2 q) : Gr S S2 q ow ow2 val val2 := by
  refine ⟨fun a ha => ?_, fun a h1 h2 => ?_⟩
  · have e : a ≠ q := fun z => hq (z ▸ ha)
    obtain ⟨a1, a2, a3, a4, a5, a6⟩ := h.1 a ((zpN_L _ _ _ _ _).mpr (Or.inl ha))
    refine ⟨a1, a2.trans (zpN_k _ e), a3.trans (zpN_n _ e), a4.trans (up_ne _ _ e), a5.trans (up_ne _ _ e), fun _ => ?_⟩
    obtain ⟨c1, c2, c3, c4, c5⟩ := a6 e
    exact ⟨fun c k => (c1 c k).trans (zpN_r _ e c k), c2.trans (zpN_A _ e), fun c k => (c3 c k).trans (vpN_i _ e c k), c4.trans (vpN_A _ e), c5.trans (vpN_J _ e)⟩
  · by_cases e : a = q
    · rw [e]; exact hf
    · exact h.2 a h1 (fun z => by rcases (zpN_L _ _ _ _ _).mp z with z | z; exact h2 z; exact e z)
/-- an array of numbers -/
theorem Gr.arr (hq : q ∉ zL S.1) (hk : ci = 10 ∨ ci = 11 ∨ ci = 12 ∨ ci = 14) : Gr S (zpN S.1 q ci N, vpN S.2 q) q ow (va_up ow q none) val (va_up val q 0) := Gr.mk (ci := ci) (N := N) hq (Gr.refl _ _ _ _) (FIN.kd (by show zK (zpN S.1 q ci N) q = 8 ∨ _; rw [zpN_k']; omega))
end NEWC
theorem vl_0 : vl (fun _ => (0 : Int32)) 16 = 0 := by decide
section INITW
variable {Γ : Gm} {κ : Cx} {S S0 : Hs} {cs sl pc : Nat} {Q : State → Prop} {lv : Lv} {st : List Value} {M : Mm} {R : Room} {ow ow0 : Ow} {val val0 : Nat → Nat} {o ci k : Nat}
/-- what a constructor leaves -/
def iP (S : Hs) (o : Nat) (ow : Ow) (val : Nat → Nat) (X : Hs → (Nat → Nat) → Prop) : Hs → Prop := fun S' => ∃ ow' val', Gr S S' o ow ow' val val' ∧ CI S' ow' val' ∧ FIN S'.1 S'.2 val' o ∧ X S' val'
set_option maxRecDepth 100000 in
theorem c_initW (hC : CI S ow val) (ho : zIn S.1 o 7) (h0 : zR S.1 7 0 o = none) (hl : vI S.2 7 1 o = 0) (hv : val o = 0) : zCt Γ mX8_init 1 12 1 16 [.ref o] S (pV (iP S o ow val (fun _ _ => True))) := by
  refine zCt.of [some (.ref o)] pn_X8_init rfl (Nat.le_of_ble_eq_true rfl) rfl (fun κ F => ?_)
  refine z_aload_n F dX8_init_0 rfl ?_
  refine z_obj F dX8_init_1 ml_X8_1 rfl ⟨by decide, by decide⟩ ?_
  refine z_aload_n F dX8_init_4 rfl ?_
  refine z_bipush (v := nI 16) F dX8_init_5 (by decide) ?_
  refine z_newA (N := 16) (ci := 11) (t0 := 1) F dX8_init_7 ac_int rfl rfl (Or.inl ⟨rfl, rfl⟩) rfl (by decide) ⟨by decide, by decide⟩ (fun g hg _ => ?_)
  have hog : o ≠ g := fun e => hg (e ▸ ho.1)
  have ho1 : zIn (zpN S.1 g 11 16) o 7 := ⟨(zpN_L _ _ _ _ _).mpr (Or.inl ho.1), by rw [zpN_k _ hog]; exact ho.2⟩
  refine z_putR F dX8_init_9 pf_X8_9 (by decide +kernel) rfl ho1 ?_
  obtain ⟨n1, n2, n3⟩ := hC.new (q := g) hg 11 16
  have hgm : g ∈ zL (zpN S.1 g 11 16) := (zpN_L _ _ _ _ _).mpr (Or.inr rfl)
  have hwh : wh (sZ (zpN S.1 g 11 16) 7 0 o g) o g := ⟨ho1, sZ_r _ _ _ _ _, ⟨hgm, zpN_k' S.1 g 11 16⟩, zpN_n' S.1 g 11 16⟩
  have hCI : CI (sZ (zpN S.1 g 11 16) 7 0 o g, vpN S.2 g) (va_up (va_up ow g none) g (some (o, 0))) (va_up val g 0) := by
    refine ⟨fun a j r ha hr => ?_, fun x g' w => ?_, fun b a j hb hw => ?_⟩
    · by_cases e : a = o ∧ j = 0
      · obtain ⟨rfl, rfl⟩ := e
        have : rf (sZ (zpN S.1 g 11 16) 7 0 a g) a 0 = some g := by
          unfold rf
          rw [show zK (sZ (zpN S.1 g 11 16) 7 0 a g) a = 7 from ho1.2]
          exact sZ_r _ _ _ _ _
        rw [this] at hr
        injection hr with hr
        subst hr
        exact ⟨hgm, Or.inr (up_self _ _ _)⟩
      · have hr' : rf (zpN S.1 g 11 16) a j = some r := by
          unfold rf at hr ⊢
          rw [show zK (sZ (zpN S.1 g 11 16) 7 0 o g) a = zK (zpN S.1 g 11 16) a from rfl] at hr
          rw [sZ_n _ (fun z => e ⟨z.2.2, z.2.1⟩)] at hr
          exact hr
        obtain ⟨m1, m2⟩ := n1 a j r ha hr'
        refine ⟨m1, ?_⟩
        rcases m2 with m2 | m2
        · exact Or.inl m2
        · right
          have hrg : r ≠ g := fun z => by rw [z, up_self] at m2; cases m2
          rw [up_ne _ _ hrg]
          exact m2
    · by_cases e : x = o
      · subst e
        have hg' : g' = g := hwh.fn w ▸ rfl
        subst hg'
        refine ⟨?_, ?_⟩
        · rw [up_ne _ _ hog, hv]
          show vl (vA (vpN S.2 g') g') 16 = 0
          rw [vpN_A']; exact vl_0
        · rw [up_ne _ _ hog, hv]
          show vI (vpN S.2 g') 7 1 x = _
          rw [vpN_i _ hog, hl]; rfl
      · exact n2 x g' ⟨w.1, by rw [← sZ_n (ci := 7) (k := 0) (o := o) (q := g) (zpN S.1 g 11 16) (fun z => e z.2.2)]; exact w.2.1, w.2.2⟩
    · by_cases e : b = g
      · rw [e, up_self] at hw
        injection hw with hw
        injection hw with hw1
        exact hw1 ▸ ho1.1
      · rw [up_ne _ _ e] at hw
        exact n3 b a j hb hw
  refine z_vret F dX8_init_12 rfl ⟨_, _, ?_, hCI, ⟨fun _ => ⟨g, hwh⟩, fun e => ?_, fun e => ?_, fun e => ?_, fun e => ?_, fun e => ?_, fun e => ?_, fun e => ?_, fun e => ?_⟩, trivial⟩
  · have h1 := Gr.arr (S := S) (N := 16) (ow := ow) (val := val) hg (Or.inr (Or.inl rfl))
    refine ⟨fun a ha => ?_, fun a h3 h4 => ?_⟩
    · obtain ⟨a1, a2, a3, a4, a5, a6⟩ := h1.1 a ha
      have e : a ≠ g := fun z => hg (z ▸ ha)
      refine ⟨a1, a2, a3, by rw [up_ne _ _ e]; exact a4, a5, fun hne => ?_⟩
      obtain ⟨c1, c2, c3, c4, c5⟩ := a6 e
      exact ⟨fun c j => by rw [sZ_n _ (fun z => hne z.2.2)]; exact c1 c j, c2, c3, c4, c5⟩
    · have hne : a ≠ o := fun e => h4 (e ▸ ho.1)
      exact (h1.2 a h3 h4).ofEq rfl (fun b hb => hb) rfl (fun c j => sZ_n _ (fun z => hne z.2.2)) rfl (fun _ _ => rfl) (fun _ _ _ => rfl)
  all_goals (have e7 : zK (sZ (zpN S.1 g 11 16) 7 0 o g) o = 7 := ho1.2; rw [e7] at e; cases e)
/-- new Whole() -/
theorem z_mkW (F : zFx Γ κ M R) {i1 i2 : Nat} (d1 : decode (mb M) pc = .ok (.new i1, 3)) (d2 : decode (mb M) (pc + 3) = .ok (.dup, 1)) (d3 : decode (mb M) (pc + 3 + 1) = .ok (.invokespecial i2, 3)) (hcl : Cond.classLink (mo M) i1 RX8 ∈ tz) (hml : (mo M, i2, my mX8_init, "FractionRows") ∈ zNM) (hC : CI S ow val) (hlen : lv.length = ml M) (hrm : ((Value.ref 0 :: st).map fun v => v.category).sum ≤ 8) (hR : 1 + 1 ≤ R.frames ∧ 8 + (1 + 11) + 12 ≤ R.locals) (hf : cs + 1 + 1 ≤ R.cells ∧ sl + 2 + 16 ≤ R.slots)
    (kk : ∀ (q : Nat) (S' : Hs) (ow' : Ow) (val' : Nat → Nat), q ∉ zL S.1 → Gr S S' q ow ow' val val' → CI S' ow' val' → zIn S'.1 q 7 → ow' q = none → val' q = 0 → zX Γ κ S' (cs + 1 + 1) (sl + 2 + 16) Q (pc + 3 + 1 + 3) lv (.ref q :: st)) : zX Γ κ S cs sl Q pc lv st := by
  refine z_new (ci := 7) F d1 hcl ins_X8 ini_X8 rfl (by decide) rfl ⟨by omega, by omega⟩ (fun q hq _ => ?_)
  refine z_dup F d2 rfl ?_
  have hC1 := hC.new (q := q) hq 7 0
  have hi : zIn (zpN S.1 q 7 0) q 7 := ⟨(zpN_L _ _ _ _ _).mpr (Or.inr rfl), up_self _ _ _⟩
  refine z_callN (As := []) F (c_initW hC1 hi (zpN_r' _ _ _ _ _ _) (vpN_i' _ _ _ _) (up_self _ _ _)) d3 hml ok_X8_init im_X8_init rfl rfl rfl hlen rfl hrm hR hf (fun S' hS' => ?_)
  obtain ⟨ow', val', hG, hC', hF, -⟩ := hS'
  have hq' := hG.1 q hi.1
  exact kk q S' ow' val' hq (Gr.mk hq hG hF) hC' (hG.i hi) (hq'.2.2.2.1.trans (up_self _ _ _)) (hq'.2.2.2.2.1.trans (up_self _ _ _))
/-- a step from S to S': the place k of o holds q, which is new; nothing else of o has changed -/
def Fq (S S' : Hs) (ci o k q : Nat) (val val' : Nat → Nat) : Prop := zR S'.1 ci k o = some q ∧ (∀ j, j ≠ k → zR S'.1 ci j o = zR S.1 ci j o) ∧ (∀ c j, vI S'.2 c j o = vI S.2 c j o) ∧ ∀ b c, zIn S.1 b c → zIn S'.1 b c ∧ zn S'.1 b = zn S.1 b ∧ val' b = val b
/-- what was made is put into the place k of o -/
theorem Fq.mk {S1 : Hs} {ow1 : Ow} {val1 : Nat → Nat} {q : Nat} (h0 : Gr S0 S o ow0 ow val0 val) (hG : Gr S S1 q ow ow1 val val1) (hC : CI S1 ow1 val1) (ho : zIn S0.1 o ci) (hci : ci < 10) (h7 : ci ≠ 7) (hq : q ∉ zL S.1) (hq1 : q ∈ zL S1.1) (hn : ow1 q = none) (hf : FIN S1.1 S1.2 val1 q) (k : Nat) : Gr S0 (sZ S1.1 ci k o q, S1.2) o ow0 (va_up ow1 q (some (o, k))) val0 val1 ∧ CI (sZ S1.1 ci k o q, S1.2) (va_up ow1 q (some (o, k))) val1 ∧ Fq S (sZ S1.1 ci k o q, S1.2) ci o k q val val1 := by
  have hoS := h0.i ho
  have hq0 : q ∉ zL S0.1 := fun z => hq (h0.1 q z).1
  have hoq : o ≠ q := fun e => hq (e ▸ hoS.1)
  have h1 := h0.trans hG (Or.inr hq0) (fun _ _ => hf)
  refine ⟨h1.put ho.1 hq0 k _, hC.put (hG.i hoS) hci h7 hq1 hn, sZ_r _ _ _ _ _, fun j hj => ?_, fun c j => hG.vi hoS.1 hoq c j, fun b c hb => ⟨hG.i hb, hG.n hb, hG.v hb⟩⟩
  show zR (sZ S1.1 ci k o q) ci j o = _
  rw [sZ_n _ (fun z => hj z.2.1)]
  exact hG.r hoS.1 hoq ci j
/-- this.f = new Whole() -/
theorem z_fW (F : zFx Γ κ M R) {i1 i2 i4 : Nat} (d0 : decode (mb M) pc = .ok (.aload_n 0, 1)) (d1 : decode (mb M) (pc + 1) = .ok (.new i1, 3)) (d2 : decode (mb M) (pc + 1 + 3) = .ok (.dup, 1)) (d3 : decode (mb M) (pc + 1 + 3 + 1) = .ok (.invokespecial i2, 3)) (d4 : decode (mb M) (pc + 1 + 3 + 1 + 3) = .ok (.putfield i4, 3)) (hcl : Cond.classLink (mo M) i1 RX8 ∈ tz) (hml : (mo M, i2, my mX8_init, "FractionRows") ∈ zNM) (hpf : zPF (mo M) i4 ci k) (hi : zIs ci k = false) (hnm : (my M).name = "<init>") (hl0 : lv[((0 : Fin 4) : Nat)]? = some (some (.ref o))) (hlen : lv.length = ml M) (ho : zIn S0.1 o ci) (hci : ci < 10) (h7 : ci ≠ 7) (h0 : Gr S0 S o ow0 ow val0 val) (hC : CI S ow val) (hR : 1 + 1 ≤ R.frames ∧ 8 + (1 + 11) + 12 ≤ R.locals) (hf : cs + 1 + 1 ≤ R.cells ∧ sl + 2 + 16 ≤ R.slots)
    (kk : ∀ (q : Nat) (S' : Hs) (ow' : Ow) (val' : Nat → Nat), q ∉ zL S.1 → Gr S0 S' o ow0 ow' val0 val' → CI S' ow' val' → Fq S S' ci o k q val val' → zIn S'.1 q 7 → ow' q = some (o, k) → val' q = 0 → zX Γ κ S' (cs + 1 + 1) (sl + 2 + 16) Q (pc + 1 + 3 + 1 + 3 + 3) lv []) : zX Γ κ S cs sl Q pc lv [] := by
  refine z_aload_n F d0 hl0 ?_
  refine z_mkW F d1 d2 d3 hcl hml hC hlen (Nat.le_of_ble_eq_true rfl) hR hf (fun q S1 ow1 val1 hq hG hC1 hq7 hqo hqv => ?_)
  have hoS := h0.i ho
  obtain ⟨g1, g2, g3⟩ := Fq.mk h0 hG hC1 ho hci h7 hq hq7.1 hqo (hG.2 q hq7.1 hq) k
  refine z_putR F d4 hpf hi hnm (hG.i hoS) ?_
  exact kk q _ _ _ hq g1 g2 g3 hq7 (up_self _ _ _) hqv
/-- places that hold Wholes -/
def fl7 (S : Hs) (val : Nat → Nat) (ci o : Nat) (P : Nat → Prop) : Prop := ∀ k, P k → ∃ q, zR S.1 ci k o = some q ∧ zIn S.1 q 7 ∧ val q = 0
theorem fl7.step {S' : Hs} {val' : Nat → Nat} {P P' : Nat → Prop} {q : Nat} (h : fl7 S val ci o P) (hF : Fq S S' ci o k q val val') (hq : zIn S'.1 q 7) (hv : val' q = 0) (hP : ∀ j, P' j → P j ∨ j = k) : fl7 S' val' ci o P' := fun j hj => by
  by_cases e : j = k
  · subst e; exact ⟨q, hF.1, hq, hv⟩
  · obtain ⟨r, e1, e2, e3⟩ := h j ((hP j hj).resolve_right e)
    obtain ⟨i1, -, i3⟩ := hF.2.2.2 r 7 e2
    exact ⟨r, by rw [hF.2.1 j e]; exact e1, i1, by rw [i3]; exact e3⟩
theorem z_cs {cs' sl' : Nat} (h1 : cs = cs') (h2 : sl = sl') (h : zX Γ κ S cs' sl' Q pc lv st) : zX Γ κ S cs sl Q pc lv st := by
  subst h1
  subst h2
  exact h
set_option maxRecDepth 100000 in
theorem c_initF (hC : CI S ow val) (ho : zIn S.1 o 3) (hb : vI S.2 3 2 o = 0) : zCt Γ mX3_init 2 32 4 36 [.ref o] S (pV (iP S o ow val (fun _ _ => True))) := by
  refine zCt.of [some (.ref o)] pn_X3_init rfl (Nat.le_of_ble_eq_true rfl) rfl (fun κ F => ?_)
  refine z_aload_n F dX3_init_0 rfl ?_
  refine z_obj F dX3_init_1 ml_X3_1 rfl ⟨by decide, by decide⟩ ?_
  refine z_fW (ci := 3) (k := 0) (o := o) (S0 := S) F dX3_init_4 dX3_init_5 dX3_init_8 dX3_init_9 dX3_init_12 cl_X3_7 (by decide +kernel) pf_X3_10 (by decide +kernel) rfl rfl rfl ho (by decide) (by decide) (Gr.refl S o ow val) hC ⟨by decide, by decide⟩ ⟨by decide, by decide⟩ (fun q1 S1 ow1 val1 hn1 hG1 hC1 hF1 hq1 hw1 hv1 => ?_)
  refine z_fW (ci := 3) (k := 1) (o := o) (S0 := S) F dX3_init_15 dX3_init_16 dX3_init_19 dX3_init_20 dX3_init_23 cl_X3_7 (by decide +kernel) pf_X3_16 (by decide +kernel) rfl rfl rfl ho (by decide) (by decide) hG1 hC1 ⟨by decide, by decide⟩ ⟨by decide, by decide⟩ (fun q2 S2 ow2 val2 hn2 hG2 hC2 hF2 hq2 hw2 hv2 => ?_)
  have r0 : zR S2.1 3 0 o = some q1 := by rw [hF2.2.1 0 (by decide)]; exact hF1.1
  have r1 : zR S2.1 3 1 o = some q2 := hF2.1
  obtain ⟨i1, -, v1⟩ := hF2.2.2.2 q1 7 hq1
  have ho2 := hG2.i ho
  have q20 : q2 ∉ zL S.1 := fun z => hn2 (hG1.1 q2 z).1
  have hFq : FIN S2.1 S2.2 val2 q2 := hG2.2 q2 hq2.1 q20
  obtain ⟨g, hw⟩ := hFq.1 hq2.2
  have hown := (hC2.1 q2 0 g hq2.1 (by unfold rf; rw [hq2.2]; exact hw.2.1)).2.resolve_left (by rw [hw.2.2.1.2]; decide)
  have hg0 : g ∉ zL S.1 := fun z => by
    rw [(hG2.1 g z).2.2.2.1] at hown
    exact q20 (hC.2.2 g q2 0 z hown)
  have hne : q1 ≠ q2 := fun e => hn2 (e ▸ hq1.1)
  have hb2 : vI S2.2 3 2 o = 0 := by rw [hF2.2.2.1, hF1.2.2.1]; exact hb
  refine z_aload_n F dX3_init_26 rfl ?_
  refine z_getR F dX3_init_27 gr_X3_16 ho2 r1 ?_
  refine z_lconst (v := lN 1) F dX3_init_30 (by decide) ?_
  refine z_cVv (As := [.long (lN 1)]) F (c_setBits (n := 1) hw (hC2.2.1 q2 g hw) (by decide)) dX3_init_31 ml_X3_19 ok_X8_setBits hq2 (by decide) rfl rfl rfl (Nat.le_of_ble_eq_true rfl) (by decide) (by decide) (fun S' hS' => ?_)
  obtain ⟨V', rfl, hV, hx⟩ := hS'
  obtain ⟨g1, g2⟩ := hG2.bits hC2 ho.1 q20 hg0 hw2 hw hV hx
  refine z_vret F dX3_init_34 rfl ⟨ow2, _, g1, g2, ⟨fun e => ?_, fun _ => ⟨q1, q2, r0, r1, i1, hq2, by rw [up_ne _ _ hne, v1]; exact hv1, up_self _ _ _, ?_⟩, fun e => ?_, fun e => ?_, fun e => ?_, fun e => ?_, fun e => ?_, fun e => ?_, fun e => ?_⟩, trivial⟩
  case refine_2 => rw [hV.1 3 2 o (fun z => absurd z.1 (by decide))]; exact hb2
  all_goals (have e7 : zK S2.1 o = 3 := ho2.2; rw [e7] at e; cases e)
/-- new Fraction() -/
theorem z_mkF (F : zFx Γ κ M R) {i1 i2 : Nat} (d1 : decode (mb M) pc = .ok (.new i1, 3)) (d2 : decode (mb M) (pc + 3) = .ok (.dup, 1)) (d3 : decode (mb M) (pc + 3 + 1) = .ok (.invokespecial i2, 3)) (hcl : Cond.classLink (mo M) i1 RX3 ∈ tz) (hml : Cond.methodLink (mo M) i2 (my mX3_init) ∈ tz) (hC : CI S ow val) (hlen : lv.length = ml M) (hrm : ((Value.ref 0 :: st).map fun v => v.category).sum ≤ 8) (hR : 2 + 1 ≤ R.frames ∧ 8 + (1 + 11) + 32 ≤ R.locals) (hf : cs + 1 + 4 ≤ R.cells ∧ sl + 3 + 36 ≤ R.slots)
    (kk : ∀ (q : Nat) (S' : Hs) (ow' : Ow) (val' : Nat → Nat), q ∉ zL S.1 → Gr S S' q ow ow' val val' → CI S' ow' val' → zIn S'.1 q 3 → ow' q = none → zX Γ κ S' (cs + 1 + 4) (sl + 3 + 36) Q (pc + 3 + 1 + 3) lv (.ref q :: st)) : zX Γ κ S cs sl Q pc lv st := by
  refine z_new (ci := 3) F d1 hcl ins_X3 ini_X3 rfl (by decide) rfl ⟨by omega, by omega⟩ (fun q hq _ => ?_)
  refine z_dup F d2 rfl ?_
  have hC1 := hC.new (q := q) hq 3 0
  have hi : zIn (zpN S.1 q 3 0) q 3 := ⟨(zpN_L _ _ _ _ _).mpr (Or.inr rfl), up_self _ _ _⟩
  refine z_callI (As := []) F (c_initF hC1 hi (vpN_i' _ _ _ _)) d3 hml ok_X3_init im_X3_init rfl rfl rfl hlen rfl hrm hR hf (fun S' hS' => ?_)
  obtain ⟨ow', val', hG, hC', hF, -⟩ := hS'
  have hq' := hG.1 q hi.1
  exact kk q S' ow' val' hq (Gr.mk hq hG hF) hC' (hG.i hi) (hq'.2.2.2.1.trans (up_self _ _ _))
/-- this.f = new Fraction() -/
theorem z_fF (F : zFx Γ κ M R) {i1 i2 i4 : Nat} (d0 : decode (mb M) pc = .ok (.aload_n 0, 1)) (d1 : decode (mb M) (pc + 1) = .ok (.new i1, 3)) (d2 : decode (mb M) (pc + 1 + 3) = .ok (.dup, 1)) (d3 : decode (mb M) (pc + 1 + 3 + 1) = .ok (.invokespecial i2, 3)) (d4 : decode (mb M) (pc + 1 + 3 + 1 + 3) = .ok (.putfield i4, 3)) (hcl : Cond.classLink (mo M) i1 RX3 ∈ tz) (hml : Cond.methodLink (mo M) i2 (my mX3_init) ∈ tz) (hpf : zPF (mo M) i4 ci k) (hi : zIs ci k = false) (hnm : (my M).name = "<init>") (hl0 : lv[((0 : Fin 4) : Nat)]? = some (some (.ref o))) (hlen : lv.length = ml M) (ho : zIn S0.1 o ci) (hci : ci < 10) (h7 : ci ≠ 7) (h0 : Gr S0 S o ow0 ow val0 val) (hC : CI S ow val) (hR : 2 + 1 ≤ R.frames ∧ 8 + (1 + 11) + 32 ≤ R.locals) (hf : cs + 1 + 4 ≤ R.cells ∧ sl + 3 + 36 ≤ R.slots)
    (kk : ∀ (q : Nat) (S' : Hs) (ow' : Ow) (val' : Nat → Nat), q ∉ zL S.1 → Gr S0 S' o ow0 ow' val0 val' → CI S' ow' val' → Fq S S' ci o k q val val' → zIn S'.1 q 3 → zX Γ κ S' (cs + 1 + 4) (sl + 3 + 36) Q (pc + 1 + 3 + 1 + 3 + 3) lv []) : zX Γ κ S cs sl Q pc lv [] := by
  refine z_aload_n F d0 hl0 ?_
  refine z_mkF F d1 d2 d3 hcl hml hC hlen (Nat.le_of_ble_eq_true rfl) hR hf (fun q S1 ow1 val1 hq hG hC1 hq7 hqo => ?_)
  have hoS := h0.i ho
  obtain ⟨g1, g2, g3⟩ := Fq.mk h0 hG hC1 ho hci h7 hq hq7.1 hqo (hG.2 q hq7.1 hq) k
  refine z_putR F d4 hpf hi hnm (hG.i hoS) ?_
  exact kk q _ _ _ hq g1 g2 g3 hq7
/-- a new array of numbers into a place of o -/
theorem z_nA (F : zFx Γ κ M R) {i4 t0 N ca : Nat} {at' : ArrayType} {ty : FieldType} {n : Int32} (d1 : decode (mb M) pc = .ok (.newarray at', 2)) (d4 : decode (mb M) (pc + 2) = .ok (.putfield i4, 3)) (hac : Cond.arrayClass ty ∈ tz) (hty : newarray.typeOf at' = ty) (ht0 : (zTys (gc Γ))[t0]? = some (gc Γ ca, ty)) (hk : (ty = .int ∧ ca = 11) ∨ (ty = .byte ∧ ca = 10) ∨ (ty = .boolean ∧ ca = 12) ∨ (ty = .long ∧ ca = 14)) (hn : n = nI N) (hN : N < 100000) (hpf : zPF (mo M) i4 ci k) (hi : zIs ci k = false) (hnm : (my M).name = "<init>") (ho : zIn S0.1 o ci) (hci : ci < 10) (h7 : ci ≠ 7) (h0 : Gr S0 S o ow0 ow val0 val) (hC : CI S ow val) (hf : cs + 1 ≤ R.cells ∧ sl + N ≤ R.slots)
    (kk : ∀ (q : Nat) (S' : Hs) (ow' : Ow) (val' : Nat → Nat), q ∉ zL S.1 → Gr S0 S' o ow0 ow' val0 val' → CI S' ow' val' → Fq S S' ci o k q val val' → zIn S'.1 q ca → zn S'.1 q = N → vA S'.2 q = (fun _ => 0) → zX Γ κ S' (cs + 1) (sl + N) Q (pc + 2 + 3) lv st) : zX Γ κ S cs sl Q pc lv (.int n :: .ref o :: st) := by
  refine z_newA (N := N) (ci := ca) (t0 := t0) F d1 hac hty ht0 hk hn hN hf (fun q hq _ => ?_)
  have hoS := h0.i ho
  have hca : ca = 10 ∨ ca = 11 ∨ ca = 12 ∨ ca = 14 := by omega
  have hG := Gr.arr (S := S) (N := N) (ow := ow) (val := val) hq hca
  have hC1 := hC.new (q := q) hq ca N
  have hq7 : zIn (zpN S.1 q ca N) q ca := ⟨(zpN_L _ _ _ _ _).mpr (Or.inr rfl), up_self _ _ _⟩
  obtain ⟨g1, g2, g3⟩ := Fq.mk h0 hG hC1 ho hci h7 hq hq7.1 (up_self _ _ _) (hG.2 q hq7.1 hq) k
  refine z_putR F d4 hpf hi hnm (hG.i hoS) ?_
  exact kk q _ _ _ hq g1 g2 g3 hq7 (up_self _ _ _) (up_self _ _ _)
/-- an element of an array of Fractions -/
theorem rf_sQ (Z : Hz) {o i q a j : Nat} (ho : zK Z o = 13) : rf (sQ Z o i q) a j = if a = o ∧ j = i then some q else rf Z a j := by
  unfold rf
  rw [show zK (sQ Z o i q) a = zK Z a from rfl]
  by_cases e : a = o
  · subst e
    rw [if_pos ho, if_pos ho]
    show va_up (zA Z) a (va_up (zA Z a) i (some q)) a j = _
    rw [up_self]
    by_cases ej : j = i
    · subst ej; rw [up_self, if_pos ⟨rfl, rfl⟩]
    · rw [up_ne _ _ ej, if_neg (fun z => ej z.2)]
  · have h9 : zA (sQ Z o i q) a = zA Z a := up_ne _ _ e
    rw [h9, if_neg (show ¬ (a = o ∧ j = i) from fun z => e z.1)]
    rfl
theorem CI.putQ {i q : Nat} (h : CI S ow val) (ho : zIn S.1 o 13) (hq : q ∈ zL S.1) (hn : ow q = none) : CI (sQ S.1 o i q, S.2) (va_up ow q (some (o, i))) val := by
  refine ⟨fun a j r ha hr => ?_, h.2.1, fun b a j hb hw => ?_⟩
  · rw [rf_sQ _ ho.2] at hr
    by_cases e : a = o ∧ j = i
    · rw [if_pos e] at hr
      injection hr with hr
      subst hr
      rw [e.1, e.2]
      exact ⟨hq, Or.inr (up_self _ _ _)⟩
    · rw [if_neg e] at hr
      obtain ⟨m1, m2⟩ := h.1 a j r ha hr
      refine ⟨m1, ?_⟩
      rcases m2 with m2 | m2
      · exact Or.inl m2
      · right
        have hrq : r ≠ q := fun z => by rw [z, hn] at m2; cases m2
        rw [up_ne _ _ hrq]
        exact m2
  · by_cases e : b = q
    · rw [e, up_self] at hw
      injection hw with hw
      injection hw with hw1
      exact hw1 ▸ ho.1
    · rw [up_ne _ _ e] at hw
      exact h.2.2 b a j hb hw
theorem Gr.putQ {i q : Nat} (h : Gr S0 S o ow0 ow val0 val) (ho : o ∈ zL S0.1) (hq : q ∉ zL S0.1) (y : Option (Nat × Nat)) : Gr S0 (sQ S.1 o i q, S.2) o ow0 (va_up ow q y) val0 val := by
  refine ⟨fun a ha => ?_, fun a h1 h2 => ?_⟩
  · obtain ⟨a1, a2, a3, a4, a5, a6⟩ := h.1 a ha
    have nq : a ≠ q := fun e => hq (e ▸ ha)
    refine ⟨a1, a2, a3, by rw [up_ne _ _ nq]; exact a4, a5, fun hne => ?_⟩
    obtain ⟨c1, c2, c3, c4, c5⟩ := a6 hne
    exact ⟨c1, (up_ne _ _ hne).trans c2, c3, c4, c5⟩
  · have hne : a ≠ o := fun e => h2 (e ▸ ho)
    exact (h.2 a h1 h2).ofEq rfl (fun b hb => hb) rfl (fun _ _ => rfl) (up_ne _ _ hne) (fun _ _ => rfl) (fun _ _ _ => rfl)
def zP (S : Hs) (N : Nat) (ow : Ow) (val : Nat → Nat) : Nat → Hs → Prop := fun q S' => ∃ ow' val', q ∉ zL S.1 ∧ Gr S S' q ow ow' val val' ∧ CI S' ow' val' ∧ zIn S'.1 q 13 ∧ zn S'.1 q = N ∧ ow' q = none
set_option maxRecDepth 100000 in
set_option maxHeartbeats 1000000 in
theorem c_zeros {N : Nat} (hN : N < 1000) (hC : CI S ow val) : zCt Γ mX3_zeros 3 52 (1 + 5 * N) (40 * N) [.int (nI N)] S (pR (zP S N ow val)) := by
  refine zCt.of [some (.int (nI N)), none, none] pn_X3_zeros rfl (Nat.le_of_ble_eq_true rfl) rfl (fun κ F => ?_)
  generalize hQ : zQ Γ κ (pR (zP S N ow val)) (1 + 5 * N) (40 * N) = Q
  refine z_iconst (v := nI 0) F dX3_zeros_0 (by decide) ?_
  refine z_iload_n F dX3_zeros_1 rfl ?_
  refine z_max F dX3_zeros_2 ml_X3_23 rfl ⟨Nat.le_of_ble_eq_true rfl, Nat.le_of_ble_eq_true rfl⟩ ⟨Nat.zero_le _, Nat.zero_le _⟩ ?_
  have hmx : (if nI 0 < nI N then nI N else nI 0) = nI N := by
    rcases Nat.eq_zero_or_pos N with h | h
    · rw [h, if_neg (by decide)]
    · rw [if_pos ((nI_ltI (by decide) (by omega)).mpr h)]
  rw [hmx]
  refine z_newQ (N := N) F dX3_zeros_5 cl_X3_11 rfl (by omega) ⟨by show _ ≤ 1 + 5 * N; omega, by show _ ≤ 40 * N; omega⟩ (fun o ho _ => ?_)
  refine z_astore_n_1 F dX3_zeros_8 rfl ?_
  refine z_iconst (v := nI 0) F dX3_zeros_9 (by decide) ?_
  refine z_istore_n_2 F dX3_zeros_10 rfl ?_
  have hC1 := hC.new (q := o) ho 13 N
  have hi : zIn (zpN S.1 o 13 N) o 13 := ⟨(zpN_L _ _ _ _ _).mpr (Or.inr rfl), up_self _ _ _⟩
  have hn1 : zn (zpN S.1 o 13 N) o = N := up_self _ _ _
  have loop : ∀ (d i : Nat) (Si : Hs) (owi : Ow) (vali : Nat → Nat), i + d = N → Gr (zpN S.1 o 13 N, vpN S.2 o) Si o (va_up ow o none) owi (va_up val o 0) vali → CI Si owi vali → (∀ j, j < i → ∃ q, zA Si.1 o j = some q ∧ zIn Si.1 q 3) → zX Γ κ Si (1 + 5 * i) (N + 39 * i) Q 11 [some (.int (nI N)), some (.ref o), some (.int (nI i))] [] := by
    intro d
    induction d with
    | zero =>
      intro i Si owi vali hid hG hCi hA
      have hiN : i = N := by omega
      have hoi := hG.i hi
      have hni : zn Si.1 o = N := (hG.n hi).trans hn1
      refine z_iload_n F dX3_zeros_11 rfl ?_
      refine z_aload_n F dX3_zeros_12 rfl ?_
      refine z_alen F dX3_zeros_13 hoi (by decide) ?_
      refine z_ti (congrArg nI hni) ?_
      refine z_icmp_ge (tgt := 33) F dX3_zeros_14 (by decide) (fun c => ?_) (fun c => absurd (nI_le (by omega) (by omega)) c)
      refine z_aload_n F dX3_zeros_33 rfl ?_
      refine z_cs (show 1 + 5 * i = 1 + 5 * N by rw [hiN]) (show N + 39 * i = 40 * N by omega) ?_
      subst hQ
      have hFIN : FIN Si.1 Si.2 vali o := FIN.of13 hoi.2 (fun j hj => hA j (by omega))
      have hoo := hG.1 o hi.1
      exact z_aret F dX3_zeros_34 rfl (Or.inr ⟨_, rfl⟩) ⟨owi, vali, ho, Gr.mk ho hG hFIN, hCi, hoi, hni, hoo.2.2.2.1.trans (up_self _ _ _)⟩
    | succ d ih =>
      intro i Si owi vali hid hG hCi hA
      have hoi := hG.i hi
      have hni : zn Si.1 o = N := (hG.n hi).trans hn1
      refine z_iload_n F dX3_zeros_11 rfl ?_
      refine z_aload_n F dX3_zeros_12 rfl ?_
      refine z_alen F dX3_zeros_13 hoi (by decide) ?_
      refine z_ti (congrArg nI hni) ?_
      refine z_icmp_ge (tgt := 33) F dX3_zeros_14 (by decide) (fun c => absurd ((nI_leI (by omega) (by omega)).mp c) (by omega)) (fun c => ?_)
      refine z_aload_n F dX3_zeros_17 rfl ?_
      refine z_iload_n F dX3_zeros_18 rfl ?_
      refine z_mkF F dX3_zeros_19 dX3_zeros_22 dX3_zeros_23 cl_X3_11 ml_X3_29 hCi rfl (Nat.le_of_ble_eq_true rfl) ⟨Nat.le_of_ble_eq_true rfl, Nat.le_of_ble_eq_true rfl⟩ ⟨by show _ ≤ 1 + 5 * N; omega, by show _ ≤ 40 * N; omega⟩ (fun q S' ow' val' hq hG' hC' hq3 hqo => ?_)
      have hoq : o ≠ q := fun e => hq (e ▸ hoi.1)
      have hin : vp_in (nI i) (zn S'.1 o) := by rw [hG'.n hoi, hni]; exact vp_in_nI (by omega) (by omega)
      have cli : (nI i).toNatClampNeg = i := nI_clamp (by omega)
      refine z_aast F dX3_zeros_26 (hG'.i hoi) hq3 hin ?_
      rw [cli]
      refine z_iinc_2 F dX3_zeros_27 rfl ?_
      refine z_goto (tgt := 11) F dX3_zeros_30 (by decide) ?_
      rw [show nI i + Int32.ofInt 1 = nI (i + 1) from nI_1 i]
      refine z_cs (show 1 + 5 * i + 1 + 4 = 1 + 5 * (i + 1) by omega) (show N + 39 * i + 3 + 36 = N + 39 * (i + 1) by omega) ?_
      have hq0 : q ∉ zL (zpN S.1 o 13 N) := fun z => hq (hG.1 q z).1
      have hG2 := hG.trans hG' (Or.inr hq0) (fun _ _ => hG'.2 q hq3.1 hq)
      refine ih (i + 1) _ _ _ (by omega) (hG2.putQ (i := i) (q := q) hi.1 hq0 (some (o, i))) (hC'.putQ (hG'.i hoi) hq3.1 hqo) (fun j hj => ?_)
      have eA : zA S'.1 o = zA Si.1 o := ((hG'.1 o hoi.1).2.2.2.2.2 hoq).2.1
      by_cases e : j = i
      · subst e
        refine ⟨q, ?_, hq3⟩
        show va_up (zA S'.1) o (va_up (zA S'.1 o) j (some q)) o j = some q
        rw [up_self, up_self]
      · obtain ⟨r, e1, e2⟩ := hA j (by omega)
        refine ⟨r, ?_, hG'.i e2⟩
        show va_up (zA S'.1) o (va_up (zA S'.1 o) i (some q)) o j = some r
        rw [up_self, up_ne _ _ e, eA]
        exact e1
  refine z_cs (show 0 + 1 = 1 + 5 * 0 by omega) (show 0 + N = N + 39 * 0 by omega) ?_
  exact loop N 0 _ _ _ (by omega) (Gr.refl _ _ _ _) hC1 (fun j hj => absurd hj (Nat.not_lt_zero j))
set_option maxRecDepth 100000 in
set_option maxHeartbeats 2000000 in
theorem c_initA (hC : CI S ow val) (ho : zIn S.1 o 0) : zCt Γ mX0_init 2 32 24 216 [.ref o] S (pV (iP S o ow val (fun _ _ => True))) := by
  refine zCt.of [some (.ref o)] pn_X0_init rfl (Nat.le_of_ble_eq_true rfl) rfl (fun κ F => ?_)
  refine z_aload_n F dX0_init_0 rfl ?_
  refine z_obj F dX0_init_1 ml_X0_1 rfl ⟨by decide, by decide⟩ ?_
  have p0 : fl7 S val 0 o (fun j => j < 0) := fun j hj => absurd hj (Nat.not_lt_zero j)
  refine z_fW (ci := 0) (k := 0) (o := o) (S0 := S) F dX0_init_4 dX0_init_5 dX0_init_8 dX0_init_9 dX0_init_12 cl_X0_7 (by decide +kernel) pf_X0_10 (by decide +kernel) rfl rfl rfl ho (by decide) (by decide) (Gr.refl S o ow val) hC ⟨by decide, by decide⟩ ⟨by decide, by decide⟩ (fun q1 S1 ow1 val1 hn1 hG1 hC1 hF1 hq1 hw1 hv1 => ?_)
  have p1 : fl7 S1 val1 0 o (fun j => j < 1) := p0.step hF1 hq1 hv1 (fun j hj => by omega)
  refine z_fW (ci := 0) (k := 1) (o := o) (S0 := S) F dX0_init_15 dX0_init_16 dX0_init_19 dX0_init_20 dX0_init_23 cl_X0_7 (by decide +kernel) pf_X0_16 (by decide +kernel) rfl rfl rfl ho (by decide) (by decide) hG1 hC1 ⟨by decide, by decide⟩ ⟨by decide, by decide⟩ (fun q2 S2 ow2 val2 hn2 hG2 hC2 hF2 hq2 hw2 hv2 => ?_)
  have p2 : fl7 S2 val2 0 o (fun j => j < 2) := p1.step hF2 hq2 hv2 (fun j hj => by omega)
  refine z_fW (ci := 0) (k := 2) (o := o) (S0 := S) F dX0_init_26 dX0_init_27 dX0_init_30 dX0_init_31 dX0_init_34 cl_X0_7 (by decide +kernel) pf_X0_19 (by decide +kernel) rfl rfl rfl ho (by decide) (by decide) hG2 hC2 ⟨by decide, by decide⟩ ⟨by decide, by decide⟩ (fun q3 S3 ow3 val3 hn3 hG3 hC3 hF3 hq3 hw3 hv3 => ?_)
  have p3 : fl7 S3 val3 0 o (fun j => j < 3) := p2.step hF3 hq3 hv3 (fun j hj => by omega)
  refine z_fW (ci := 0) (k := 3) (o := o) (S0 := S) F dX0_init_37 dX0_init_38 dX0_init_41 dX0_init_42 dX0_init_45 cl_X0_7 (by decide +kernel) pf_X0_22 (by decide +kernel) rfl rfl rfl ho (by decide) (by decide) hG3 hC3 ⟨by decide, by decide⟩ ⟨by decide, by decide⟩ (fun q4 S4 ow4 val4 hn4 hG4 hC4 hF4 hq4 hw4 hv4 => ?_)
  have p4 : fl7 S4 val4 0 o (fun j => j < 4) := p3.step hF4 hq4 hv4 (fun j hj => by omega)
  refine z_fW (ci := 0) (k := 4) (o := o) (S0 := S) F dX0_init_48 dX0_init_49 dX0_init_52 dX0_init_53 dX0_init_56 cl_X0_7 (by decide +kernel) pf_X0_25 (by decide +kernel) rfl rfl rfl ho (by decide) (by decide) hG4 hC4 ⟨by decide, by decide⟩ ⟨by decide, by decide⟩ (fun q5 S5 ow5 val5 hn5 hG5 hC5 hF5 hq5 hw5 hv5 => ?_)
  have p5 : fl7 S5 val5 0 o (fun j => j < 5) := p4.step hF5 hq5 hv5 (fun j hj => by omega)
  refine z_fW (ci := 0) (k := 5) (o := o) (S0 := S) F dX0_init_59 dX0_init_60 dX0_init_63 dX0_init_64 dX0_init_67 cl_X0_7 (by decide +kernel) pf_X0_28 (by decide +kernel) rfl rfl rfl ho (by decide) (by decide) hG5 hC5 ⟨by decide, by decide⟩ ⟨by decide, by decide⟩ (fun q6 S6 ow6 val6 hn6 hG6 hC6 hF6 hq6 hw6 hv6 => ?_)
  have p6 : fl7 S6 val6 0 o (fun j => j < 6) := p5.step hF6 hq6 hv6 (fun j hj => by omega)
  refine z_fW (ci := 0) (k := 6) (o := o) (S0 := S) F dX0_init_70 dX0_init_71 dX0_init_74 dX0_init_75 dX0_init_78 cl_X0_7 (by decide +kernel) pf_X0_31 (by decide +kernel) rfl rfl rfl ho (by decide) (by decide) hG6 hC6 ⟨by decide, by decide⟩ ⟨by decide, by decide⟩ (fun q7 S7 ow7 val7 hn7 hG7 hC7 hF7 hq7 hw7 hv7 => ?_)
  have p7 : fl7 S7 val7 0 o (fun j => j < 7) := p6.step hF7 hq7 hv7 (fun j hj => by omega)
  refine z_fW (ci := 0) (k := 7) (o := o) (S0 := S) F dX0_init_81 dX0_init_82 dX0_init_85 dX0_init_86 dX0_init_89 cl_X0_7 (by decide +kernel) pf_X0_34 (by decide +kernel) rfl rfl rfl ho (by decide) (by decide) hG7 hC7 ⟨by decide, by decide⟩ ⟨by decide, by decide⟩ (fun q8 S8 ow8 val8 hn8 hG8 hC8 hF8 hq8 hw8 hv8 => ?_)
  have p8 : fl7 S8 val8 0 o (fun j => j < 8) := p7.step hF8 hq8 hv8 (fun j hj => by omega)
  refine z_fW (ci := 0) (k := 8) (o := o) (S0 := S) F dX0_init_92 dX0_init_93 dX0_init_96 dX0_init_97 dX0_init_100 cl_X0_7 (by decide +kernel) pf_X0_37 (by decide +kernel) rfl rfl rfl ho (by decide) (by decide) hG8 hC8 ⟨by decide, by decide⟩ ⟨by decide, by decide⟩ (fun q9 S9 ow9 val9 hn9 hG9 hC9 hF9 hq9 hw9 hv9 => ?_)
  have p9 : fl7 S9 val9 0 o (fun j => j < 9) := p8.step hF9 hq9 hv9 (fun j hj => by omega)
  refine z_fW (ci := 0) (k := 9) (o := o) (S0 := S) F dX0_init_103 dX0_init_104 dX0_init_107 dX0_init_108 dX0_init_111 cl_X0_7 (by decide +kernel) pf_X0_40 (by decide +kernel) rfl rfl rfl ho (by decide) (by decide) hG9 hC9 ⟨by decide, by decide⟩ ⟨by decide, by decide⟩ (fun q10 S10 ow10 val10 hn10 hG10 hC10 hF10 hq10 hw10 hv10 => ?_)
  have p10 : fl7 S10 val10 0 o (fun j => j < 10) := p9.step hF10 hq10 hv10 (fun j hj => by omega)
  refine z_fW (ci := 0) (k := 10) (o := o) (S0 := S) F dX0_init_114 dX0_init_115 dX0_init_118 dX0_init_119 dX0_init_122 cl_X0_7 (by decide +kernel) pf_X0_43 (by decide +kernel) rfl rfl rfl ho (by decide) (by decide) hG10 hC10 ⟨by decide, by decide⟩ ⟨by decide, by decide⟩ (fun q11 S11 ow11 val11 hn11 hG11 hC11 hF11 hq11 hw11 hv11 => ?_)
  have p11 : fl7 S11 val11 0 o (fun j => j < 11) := p10.step hF11 hq11 hv11 (fun j hj => by omega)
  refine z_fW (ci := 0) (k := 11) (o := o) (S0 := S) F dX0_init_125 dX0_init_126 dX0_init_129 dX0_init_130 dX0_init_133 cl_X0_7 (by decide +kernel) pf_X0_46 (by decide +kernel) rfl rfl rfl ho (by decide) (by decide) hG11 hC11 ⟨by decide, by decide⟩ ⟨by decide, by decide⟩ (fun q12 S12 ow12 val12 hn12 hG12 hC12 hF12 hq12 hw12 hv12 => ?_)
  have p12 : fl7 S12 val12 0 o (fun j => j < 12) := p11.step hF12 hq12 hv12 (fun j hj => by omega)
  have ho2 := hG12.i ho
  refine z_vret F dX0_init_136 rfl ⟨ow12, val12, hG12, hC12, ⟨fun e => ?_, fun e => ?_, fun _ k hk => ?_, fun e => ?_, fun e => ?_, fun e => ?_, fun e => ?_, fun e => ?_, fun e => ?_⟩, trivial⟩
  case refine_3 =>
    obtain ⟨q, e1, e2, -⟩ := p12 k hk
    exact ⟨q, e1, e2⟩
  all_goals (have e7 : zK S12.1 o = 0 := ho2.2; rw [e7] at e; cases e)
end INITW
