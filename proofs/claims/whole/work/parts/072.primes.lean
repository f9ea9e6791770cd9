/-! ===== Primes: isPrime ===== -/
section WIT
variable {Γ : Gm} {κ : Cx} {S : Hs} {cs sl pc : Nat} {Q : State → Prop} {lv : Lv} {st : List Value} {M : Mm} {R : Room}
/-- the table of witnesses at t -/
def zWt (Γ : Gm) (κ : Cx) (t : Nat) : Prop := va_Z "FractionRows$Primes" "WITNESSES" "[I" (.ref t) (zA0 Γ) (ks κ) (ks κ).heap ∧ va_T .int t 4 (fun j => .int (nI (wt j))) (zA0 Γ) (ks κ) (ks κ).heap
theorem zWt.of (F : zFx Γ κ M R) : ∃ t, zWt Γ κ t := by
  obtain ⟨t, h1, h2⟩ := F.2.2.2.2.2.2.2.2.2.2.1.2.2.2.2
  have e : (fun j : Nat => Value.int (if j = 0 then 2 else if j = 1 then 3 else if j = 2 then 5 else 7)) = fun j => .int (nI (wt j)) := by
    funext j
    unfold wt
    split
    · rfl
    · split
      · rfl
      · split <;> rfl
  rw [e] at h2
  exact ⟨t, h1.kept (fun a ha _ => F.2.2.2.2.2.2.2.2.2.2.2 a ha), h2.kept (fun a ha _ => F.2.2.2.2.2.2.2.2.2.2.2 a ha)⟩
theorem z_gets {t : Nat} (F : zFx Γ κ M R) (ht : zWt Γ κ t) (ho : mo M = RX5) (hd : decode (mb M) pc = .ok (.getstatic 7, 3)) (k : zX Γ κ S cs sl Q (pc + 3) lv (.ref t :: st)) : zX Γ κ S cs sl Q pc lv st := by
  intro H locs ls h1 h2 h3
  exact va_gets F.1 F.2.1 ht.1 h2 F.2.2.2.1 (F.2.2.2.2.1 _ (List.mem_cons_of_mem _ (by rw [ho]; exact fl_X5_7))) (fun _ h => h) hd (k H locs ls h1 h2 h3)
theorem z_wlen {t : Nat} (F : zFx Γ κ M R) (ht : zWt Γ κ t) (hd : decode (mb M) pc = .ok (.arraylength, 1)) (k : zX Γ κ S cs sl Q (pc + 1) lv (.int (nI 4) :: st)) : zX Γ κ S cs sl Q pc lv (.ref t :: st) := by
  intro H locs ls h1 h2 h3
  exact va_tlen F.1 F.2.1 ht.2 h2 rfl hd (k H locs ls h1 h2 h3)
theorem z_wld {t i : Nat} (F : zFx Γ κ M R) (ht : zWt Γ κ t) (hi : i < 4) (hd : decode (mb M) pc = .ok (.iaload, 1)) (k : zX Γ κ S cs sl Q (pc + 1) lv (.int (nI (wt i)) :: st)) : zX Γ κ S cs sl Q pc lv (.int (nI i) :: .ref t :: st) := by
  intro H locs ls h1 h2 h3
  exact va_ti F.1 F.2.1 ht.2 h2 (vp_in_nI hi (by decide)) (by rw [nI_clamp (by omega)]) hd (k H locs ls h1 h2 h3)
end WIT
theorem wt_lt (i : Nat) : 2 ≤ wt i ∧ wt i ≤ 7 := by
  unfold wt
  split
  · decide
  · split
    · decide
    · split <;> decide
theorem not_wt {p : Nat} (h2 : 2 ≤ p) (h : ∀ j, j < 4 → p % wt j ≠ 0) : 11 ≤ p ∧ p % 2 = 1 := by
  have a : p % 2 ≠ 0 := h 0 (by decide)
  have b : p % 3 ≠ 0 := h 1 (by decide)
  have c : p % 5 ≠ 0 := h 2 (by decide)
  have d : p % 7 ≠ 0 := h 3 (by decide)
  refine ⟨?_, by omega⟩
  rcases Nat.lt_or_ge p 11 with z | z
  · exact absurd d (fun d => (by decide : ∀ p, p < 11 → ¬ (2 ≤ p ∧ p % 2 ≠ 0 ∧ p % 3 ≠ 0 ∧ p % 5 ≠ 0 ∧ p % 7 ≠ 0)) p z ⟨h2, a, b, c, d⟩)
  · exact z
set_option maxRecDepth 100000 in
theorem c_isPrime {Γ : Gm} {S : Hs} (x : Int32) : zCt Γ mX5_isPrime 2 53 0 0 [.int x] S (pZ (fun r S' => r = isPrB x.toNatClampNeg ∧ S' = S)) := by
  refine zCt.of [some (.int x), none] pn_X5_isPrime rfl (Nat.le_of_ble_eq_true rfl) rfl (fun κ F => ?_)
  generalize hQ : zQ Γ κ (pZ (fun r S' => r = isPrB x.toNatClampNeg ∧ S' = S)) 0 0 = Q
  obtain ⟨t, ht⟩ := zWt.of F
  refine z_iload_n F dX5_isPrime_0 rfl ?_
  refine z_iconst (v := nI 2) F dX5_isPrime_1 (by decide) ?_
  refine z_icmp_ge (tgt := 7) F dX5_isPrime_2 (by decide) (fun c => ?_) (fun c => ?_)
  · obtain ⟨p, hp, rfl⟩ := nI_of (x := x) (fun z => by
      have h1 : x.toInt < 0 := Int32.lt_iff_toInt_lt.mp z
      have h2 : (nI 2).toInt ≤ x.toInt := Int32.le_iff_toInt_le.mp c
      rw [nI_toInt (by decide)] at h2
      omega)
    have hp2 : 2 ≤ p := (nI_leI (by decide) hp).mp c
    rw [nI_clamp hp] at hQ
    have hB : isPrB p = pr1 p 4 0 := by unfold isPrB; rw [if_neg (by omega)]
    have two : ∀ (d i : Nat), i + d = 4 → 11 ≤ p → p % 2 = 1 → pr2 p d i = isPrB p → zX Γ κ S 0 0 Q 50 [some (.int (nI p)), some (.int (nI i))] [] := by
      intro d
      induction d with
      | zero =>
        intro i hi h11 ho hsp
        refine z_iload_n F dX5_isPrime_50 rfl ?_
        refine z_gets F ht rfl dX5_isPrime_51 ?_
        refine z_wlen F ht dX5_isPrime_54 ?_
        refine z_icmp_ge (tgt := 78) F dX5_isPrime_55 (by decide) (fun c1 => ?_) (fun c1 => ?_)
        · subst hQ
          refine z_iconst (v := nI 1) F dX5_isPrime_78 (by decide) ?_
          exact z_zret F true dX5_isPrime_79 rfl rfl ⟨hsp, rfl⟩
        · exact absurd (nI_le (by omega) (by omega)) c1
      | succ d ih =>
        intro i hi h11 ho hsp
        have hw := wt_lt i
        simp only [pr2] at hsp
        refine z_iload_n F dX5_isPrime_50 rfl ?_
        refine z_gets F ht rfl dX5_isPrime_51 ?_
        refine z_wlen F ht dX5_isPrime_54 ?_
        refine z_icmp_ge (tgt := 78) F dX5_isPrime_55 (by decide) (fun c1 => ?_) (fun c1 => ?_)
        · exact absurd ((nI_leI (by omega) (by omega)).mp c1) (by omega)
        · refine z_iload_n F dX5_isPrime_58 rfl ?_
          refine z_gets F ht rfl dX5_isPrime_59 ?_
          refine z_iload_n F dX5_isPrime_62 rfl ?_
          refine z_wld F ht (by omega) dX5_isPrime_63 ?_
          refine z_cSz F (c_passes (p := p) (a := wt i) (by omega) ho (by omega) (by omega)) dX5_isPrime_64 ml_X5_13 ok_X5_passes rfl rfl rfl (Nat.le_of_ble_eq_true rfl) (by decide) (by decide) (fun r S' hr => ?_)
          obtain ⟨rfl, rfl⟩ := hr
          refine z_if_ne (tgt := 72) F dX5_isPrime_67 (by decide) (fun c2 => ?_) (fun c2 => ?_)
          · rw [if_pos (zb_t c2)] at hsp
            refine z_iinc_1 F dX5_isPrime_72 rfl ?_
            refine z_goto (tgt := 50) F dX5_isPrime_75 (by decide) ?_
            rw [show nI i + Int32.ofInt 1 = nI (i + 1) from nI_1 i]
            exact ih (i + 1) (by omega) h11 ho hsp
          · rw [if_neg (zb_f c2)] at hsp
            subst hQ
            refine z_iconst (v := nI 0) F dX5_isPrime_70 (by decide) ?_
            exact z_zret F false dX5_isPrime_71 rfl rfl ⟨hsp, rfl⟩
    have one : ∀ (d i : Nat), i + d = 4 → (∀ j, j < i → p % wt j ≠ 0) → pr1 p d i = isPrB p → zX Γ κ S 0 0 Q 9 [some (.int (nI p)), some (.int (nI i))] [] := by
      intro d
      induction d with
      | zero =>
        intro i hi hj hsp
        obtain ⟨h11, ho⟩ := not_wt hp2 (fun j h => hj j (by omega))
        refine z_iload_n F dX5_isPrime_9 rfl ?_
        refine z_gets F ht rfl dX5_isPrime_10 ?_
        refine z_wlen F ht dX5_isPrime_13 ?_
        refine z_icmp_ge (tgt := 48) F dX5_isPrime_14 (by decide) (fun c1 => ?_) (fun c1 => ?_)
        · refine z_iconst (v := nI 0) F dX5_isPrime_48 (by decide) ?_
          refine z_istore_n_1 F dX5_isPrime_49 rfl ?_
          exact two 4 0 rfl h11 ho hsp
        · exact absurd (nI_le (by omega) (by omega)) c1
      | succ d ih =>
        intro i hi hj hsp
        have hw := wt_lt i
        have wne : ¬ nI (wt i) = 0 := nI_ne0 (by omega) (by omega)
        simp only [pr1] at hsp
        refine z_iload_n F dX5_isPrime_9 rfl ?_
        refine z_gets F ht rfl dX5_isPrime_10 ?_
        refine z_wlen F ht dX5_isPrime_13 ?_
        refine z_icmp_ge (tgt := 48) F dX5_isPrime_14 (by decide) (fun c1 => ?_) (fun c1 => ?_)
        · exact absurd ((nI_leI (by omega) (by omega)).mp c1) (by omega)
        · refine z_iload_n F dX5_isPrime_17 rfl ?_
          refine z_gets F ht rfl dX5_isPrime_18 ?_
          refine z_iload_n F dX5_isPrime_21 rfl ?_
          refine z_wld F ht (by omega) dX5_isPrime_22 ?_
          refine z_irem F dX5_isPrime_23 wne ?_
          refine z_ti (pk_rem hp (by omega) (by omega)) ?_
          have hlt : p % wt i < 4294967296 := by
            have := Nat.mod_lt p (show 0 < wt i by omega)
            omega
          refine z_if_ne (tgt := 42) F dX5_isPrime_24 (by decide) (fun c2 => ?_) (fun c2 => ?_)
          · have h : ¬ p % wt i = 0 := fun z => c2 ((nI_ne0' hlt).mpr z)
            rw [if_neg h] at hsp
            refine z_iinc_1 F dX5_isPrime_42 rfl ?_
            refine z_goto (tgt := 9) F dX5_isPrime_45 (by decide) ?_
            rw [show nI i + Int32.ofInt 1 = nI (i + 1) from nI_1 i]
            refine ih (i + 1) (by omega) (fun j h9 => ?_) hsp
            rcases (show j < i ∨ j = i by omega) with z | z
            · exact hj j z
            · rw [z]; exact h
          · have h : p % wt i = 0 := (nI_ne0' hlt).mp c2
            rw [if_pos h] at hsp
            refine z_iload_n F dX5_isPrime_27 rfl ?_
            refine z_gets F ht rfl dX5_isPrime_28 ?_
            refine z_iload_n F dX5_isPrime_31 rfl ?_
            refine z_wld F ht (by omega) dX5_isPrime_32 ?_
            refine z_icmp_ne (tgt := 40) F dX5_isPrime_33 (by decide) (fun c3 => ?_) (fun c3 => ?_)
            · have h3 : ¬ p = wt i := fun z => c3 (congrArg nI z)
              rw [decide_eq_false h3] at hsp
              subst hQ
              refine z_iconst (v := nI 0) F dX5_isPrime_40 (by decide) ?_
              exact z_zret F false dX5_isPrime_41 rfl rfl ⟨hsp, rfl⟩
            · have h3 : p = wt i := (nI_eq hp (by omega)).mp c3
              rw [decide_eq_true h3] at hsp
              subst hQ
              refine z_iconst (v := nI 1) F dX5_isPrime_36 (by decide) ?_
              refine z_goto (tgt := 41) F dX5_isPrime_37 (by decide) ?_
              exact z_zret F true dX5_isPrime_41 rfl rfl ⟨hsp, rfl⟩
    refine z_iconst (v := nI 0) F dX5_isPrime_7 (by decide) ?_
    refine z_istore_n_1 F dX5_isPrime_8 rfl ?_
    exact one 4 0 rfl (fun j h => absurd h (Nat.not_lt_zero j)) hB.symm
  · have h : x.toNatClampNeg < 2 := by
      have h2 : ¬ (nI 2).toInt ≤ x.toInt := fun z => c (Int32.le_iff_toInt_le.mpr z)
      rw [nI_toInt (by decide)] at h2
      show x.toInt.toNat < 2
      omega
    have hB : isPrB x.toNatClampNeg = false := by unfold isPrB; rw [if_pos h]
    subst hQ
    refine z_iconst (v := nI 0) F dX5_isPrime_5 (by decide) ?_
    exact z_zret F false dX5_isPrime_6 rfl rfl ⟨hB.symm, rfl⟩
