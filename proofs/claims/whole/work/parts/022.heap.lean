/-! ===== rows of the judgement: fields and arrays ===== -/
/-- where a cell of the pool stands -/
abbrev zIn (Z : Hz) (a ci : Nat) : Prop := a ∈ zL Z ∧ zK Z a = ci
theorem zE_obj {cy : Nat → ClassId} {Z : Hz} {V : Hv} {a ci : Nat} (h : zK Z a = ci) (hc : ci < 10) : zE cy Z V a = .inr (ci, (List.range (zN ci)).map (zFv Z V ci a)) := by
  subst h
  simp only [zE, if_pos hc]
theorem zE_ints {cy : Nat → ClassId} {Z : Hz} {V : Hv} {a ci : Nat} (h : zK Z a = ci) (hc : ci = 10 ∨ ci = 11 ∨ ci = 12) : zE cy Z V a = .inl (cy ci, zn Z a, .inl (vA V a)) := by
  subst h
  have h1 : ¬ zK Z a < 10 := by omega
  have h2 : ¬ zK Z a = 13 := by omega
  have h3 : ¬ zK Z a = 14 := by omega
  simp only [zE, if_neg h1, if_neg h2, if_neg h3]
theorem zE_longs {cy : Nat → ClassId} {Z : Hz} {V : Hv} {a : Nat} (h : zK Z a = 14) : zE cy Z V a = .inl (cy 14, zn Z a, .inr (.inl (vJ V a))) := by
  simp [zE, h]
theorem zE_refs {cy : Nat → ClassId} {Z : Hz} {V : Hv} {a : Nat} (h : zK Z a = 13) : zE cy Z V a = .inl (cy 13, zn Z a, .inr (.inr (.inr (.inr (zA Z a))))) := by
  simp [zE, h]
theorem zW_at {Γ : Gm} {S : Hs} {a : Nat} (h : a ∈ zL S.1) : ∃ k : Nat, (zW Γ S)[k]? = some (a, zE (gc Γ) S.1 S.2 a) := by
  obtain ⟨k, hk⟩ := va_pl_get (X := []) (f := zE (gc Γ) S.1 S.2) h
  exact ⟨k, hk⟩
theorem zW_set {Γ : Gm} {S S' : Hs} {a k : Nat} {e : va_E} (hD : va_D (zA0 Γ) (zW Γ S)) (h : a ∈ zL S.1) (hk : (zW Γ S)[k]? = some (a, zE (gc Γ) S.1 S.2 a)) (hL : zL S'.1 = zL S.1) (he : ∀ b, zE (gc Γ) S'.1 S'.2 b = va_up (zE (gc Γ) S.1 S.2) a e b) : (zW Γ S).set k (a, e) = zW Γ S' := by
  have h1 := va_pl_set (X := []) (f := zE (gc Γ) S.1 S.2) (e := e) hD h hk
  show (zW Γ S).set k (a, e) = va_pl (zL S'.1) (zE (gc Γ) S'.1 S'.2)
  rw [hL]
  exact h1.trans (va_pl_congr (fun b => (he b).symm))
/-- a store into the cell a: what the kit's rows hand on is the pool with that cell changed -/
theorem zHp_put {Γ : Gm} {S S' : Hs} {H H1 : Heap} {locs locs1 : List Loc} {H0 : Heap} {a k : Nat} {e : va_E} (h : zHp Γ S H) (ha : a ∈ zL S.1) (hk : (zW Γ S)[k]? = some (a, zE (gc Γ) S.1 S.2 a)) (hL : zL S'.1 = zL S.1) (he : ∀ b, zE (gc Γ) S'.1 S'.2 b = va_up (zE (gc Γ) S.1 S.2) a e b)
    (h0 : (gH Γ).size ≤ H0.size) (h00 : ∀ q : Nat, q < (gH Γ).size → H0[q]? = (gH Γ)[q]?)
    (hP : va_P (gD Γ) vwCl ((zW Γ S).set k (a, e)) H1) (hD : va_D (zA0 Γ) ((zW Γ S).set k (a, e))) (hS : va_S (zA0 Γ) H0 H1 locs1) : zHp Γ S' H1 := by
  rw [zW_set h.2.1 ha hk hL he] at hP hD
  refine ⟨hP, hD, Nat.le_trans h0 hS.1, fun q hq => ?_⟩
  rw [← h00 q hq]
  exact hS.2.1 q (Nat.lt_of_lt_of_le hq h0) (fun hA => absurd hq (Nat.not_lt.mpr hA))
/-- field k of kind ci, linked at 'idx' of the class own; or as a nest mate's -/
def zFok (own : String) (idx ci k : Nat) : Prop := ∃ (C : String) (T : u_T) (N : Nat), vwCl[ci]? = some (C, T, N) ∧ ci < 10 ∧ k < N ∧ Cond.fieldLink own idx (T k).1 (T k).2.1 (T k).2.2.1 ∈ tz ∧ zN ci = N ∧ zD ci k = (T k).2.2.1
def zFon (own : String) (idx ci k : Nat) : Prop := ∃ (C : String) (T : u_T) (N : Nat), vwCl[ci]? = some (C, T, N) ∧ ci < 10 ∧ k < N ∧ (own, idx, (T k).1, (T k).2.1, (T k).2.2.1, "FractionRows") ∈ zNF ∧ zN ci = N ∧ zD ci k = (T k).2.2.1
def zGI (own : String) (idx ci k : Nat) : Prop := (zFok own idx ci k ∨ zFon own idx ci k) ∧ zIs ci k = true
def zGR (own : String) (idx ci k : Nat) : Prop := (zFok own idx ci k ∨ zFon own idx ci k) ∧ zIs ci k = false
def zPI (own : String) (idx ci k : Nat) : Prop := zFok own idx ci k ∧ zIs ci k = true ∧ ∀ q, vwCl[ci]? = some q → (q.2.1 k).2.2.2 = false
theorem zuw {ci : Nat} {C : String} {T : u_T} {N : Nat} (hc : vwCl[ci]? = some (C, T, N)) : ∀ w ∈ u_ws C T N, w ∈ tz := by
  match ci, hc with
  | 0, hc => cases hc; exact uw_X0
  | 1, hc => cases hc; exact uw_X1
  | 2, hc => cases hc; exact uw_X2
  | 3, hc => cases hc; exact uw_X3
  | 4, hc => cases hc; exact uw_X4
  | 5, hc => cases hc; exact uw_X6
  | 6, hc => cases hc; exact uw_X7
  | 7, hc => cases hc; exact uw_X8
  | 8, hc => cases hc; exact uw_X9
  | 9, hc => cases hc; exact uw_X10
  | n + 10, hc => simp [vwCl] at hc
/-- types of fields by kind -/
def zTy (ci : Nat) : Nat → FieldType := match ci with
  | 0 => tyX0 | 1 => tyX1 | 2 => tyX2 | 3 => tyX3 | 4 => tyX4 | 5 => tyX6 | 6 => tyX7 | 7 => tyX8 | 8 => tyX9 | _ => tyX10
theorem zTy_ok {ci : Nat} {C : String} {T : u_T} {N : Nat} (hc : vwCl[ci]? = some (C, T, N)) : ∀ k, k < N → parseFieldDescriptor (T k).2.2.1 = some (zTy ci k) := by
  match ci, hc with
  | 0, hc => cases hc; exact tyX0_ok
  | 1, hc => cases hc; exact tyX1_ok
  | 2, hc => cases hc; exact tyX2_ok
  | 3, hc => cases hc; exact tyX3_ok
  | 4, hc => cases hc; exact tyX4_ok
  | 5, hc => cases hc; exact tyX6_ok
  | 6, hc => cases hc; exact tyX7_ok
  | 7, hc => cases hc; exact tyX8_ok
  | 8, hc => cases hc; exact tyX9_ok
  | 9, hc => cases hc; exact tyX10_ok
  | n + 10, hc => simp [vwCl] at hc
theorem zNm_ok {ci : Nat} {C : String} {T : u_T} {N : Nat} (hc : vwCl[ci]? = some (C, T, N)) : ∀ a, a < N → ∀ b, b < N → a ≠ b → (T a).2.1 ≠ (T b).2.1 := by
  match ci, hc with
  | 0, hc => cases hc; exact nmX0
  | 1, hc => cases hc; exact nmX1
  | 2, hc => cases hc; exact nmX2
  | 3, hc => cases hc; exact nmX3
  | 4, hc => cases hc; exact nmX4
  | 5, hc => cases hc; exact nmX6
  | 6, hc => cases hc; exact nmX7
  | 7, hc => cases hc; exact nmX8
  | 8, hc => cases hc; exact nmX9
  | 9, hc => cases hc; exact nmX10
  | n + 10, hc => simp [vwCl] at hc
/-- an int that a field of ints may hold: any, or 0, 1 in a field of booleans -/
def zFit (ci k : Nat) (x : Int32) : Prop := zD ci k = "I" ∨ (zD ci k = "Z" ∧ (x = 0 ∨ x = 1))
theorem zFit_ok {d : String} {ty : FieldType} {x : Int32} (hp : parseFieldDescriptor d = some ty) (h : d = "I" ∨ (d = "Z" ∧ (x = 0 ∨ x = 1))) : narrow ty (.int x) = .int x ∧ fits ty (.int x) = true := by
  rcases h with rfl | ⟨rfl, h⟩
  · have : ty = .int := (Option.some.inj (hp.symm.trans (by decide +kernel : parseFieldDescriptor "I" = some .int)))
    subst this
    exact ⟨rfl, rfl⟩
  · have : ty = .boolean := (Option.some.inj (hp.symm.trans (by decide +kernel : parseFieldDescriptor "Z" = some .boolean)))
    subst this
    rcases h with rfl | rfl
    · exact ⟨by decide +kernel, by decide +kernel⟩
    · exact ⟨by decide +kernel, by decide +kernel⟩
section HROWS
variable {Γ : Gm} {κ : Cx} {S : Hs} {cs sl pc : Nat} {Q : State → Prop} {lv : Lv} {st : List Value} {M : Mm} {R : Room}
theorem z_get0 (F : zFx Γ κ M R) {idx ci k a : Nat} {v : Value} (hd : decode (mb M) pc = .ok (.getfield idx, 3)) (hk : zFok (mo M) idx ci k ∨ zFon (mo M) idx ci k) (ha : zIn S.1 a ci) (hv : zFv S.1 S.2 ci a k = v) (kk : zX Γ κ S cs sl Q (pc + 3) lv (v :: st)) : zX Γ κ S cs sl Q pc lv (.ref a :: st) := by
  intro H locs ls h1 h2 h3
  obtain ⟨q0, hq⟩ := zW_at (Γ := Γ) (S := S) ha.1
  rcases hk with hk | hk
  · obtain ⟨C, T, N, hc, hci, hkN, hlink, hN, -⟩ := hk
    rw [zE_obj ha.2 hci] at hq
    exact va_get F.1 F.2.1 F.2.2.2.2.1 (fun w h => List.mem_cons_of_mem _ (zuw hc w h)) F.2.2.2.1 F.2.2.2.2.2.2.2.2.2.2.1.1 h1.1 q0 hq hc k hkN (F.2.2.2.2.1 _ (List.mem_cons_of_mem _ hlink)) (fun _ h => h) (by rw [hN, List.getElem?_map, List.getElem?_range hkN]; exact congrArg some hv) hd (kk H locs ls h1 h2 h3)
  · obtain ⟨C, T, N, hc, hci, hkN, hlink, hN, -⟩ := hk
    rw [zE_obj ha.2 hci] at hq
    exact va_getN (host := "FractionRows") F.1 F.2.1 F.2.2.2.2.1 (fun w h => List.mem_cons_of_mem _ (zuw hc w h)) F.2.2.2.1 F.2.2.2.2.2.2.2.2.2.2.1.1 h1.1 q0 hq hc k hkN (va_Nw.use rfl (F.2.2.2.2.2.2.2.2.2.2.1.2.1 _ hlink)) (fun _ h => h) (by rw [hN, List.getElem?_map, List.getElem?_range hkN]; exact congrArg some hv) hd (kk H locs ls h1 h2 h3)
theorem z_getI (F : zFx Γ κ M R) {idx ci k a : Nat} (hd : decode (mb M) pc = .ok (.getfield idx, 3)) (hk : zGI (mo M) idx ci k) (ha : zIn S.1 a ci) (kk : zX Γ κ S cs sl Q (pc + 3) lv (.int (vI S.2 ci k a) :: st)) : zX Γ κ S cs sl Q pc lv (.ref a :: st) :=
  z_get0 F hd hk.1 ha (by simp only [zFv, hk.2, if_true]) kk
theorem z_getR (F : zFx Γ κ M R) {idx ci k a q : Nat} (hd : decode (mb M) pc = .ok (.getfield idx, 3)) (hk : zGR (mo M) idx ci k) (ha : zIn S.1 a ci) (hq : zR S.1 ci k a = some q) (kk : zX Γ κ S cs sl Q (pc + 3) lv (.ref q :: st)) : zX Γ κ S cs sl Q pc lv (.ref a :: st) :=
  z_get0 F hd hk.1 ha (by simp only [zFv, hk.2, Bool.false_eq_true, if_false, hq]; rfl) kk
theorem zE_sI {cy : Nat → ClassId} {Z : Hz} {V : Hv} {a ci k : Nat} {x : Int32} (ha : zK Z a = ci) (hci : ci < 10) (hi : zIs ci k = true) (hk : k < zN ci) (b : Nat) : zE cy Z (sI V ci k a x) b = va_up (zE cy Z V) a (.inr (ci, ((List.range (zN ci)).map (zFv Z V ci a)).set k (.int x))) b := by
  by_cases hb : b = a
  · subst hb
    simp only [va_up, if_true]
    rw [zE_obj ha hci]
    congr 2
    refine List.ext_getElem? (fun j => ?_)
    by_cases hj : j = k
    · subst hj
      rw [List.getElem?_set_self (by simpa using hk), List.getElem?_map, List.getElem?_range hk]
      simp [zFv, hi, sI, vI]
    · rw [List.getElem?_set_ne (Ne.symm hj), List.getElem?_map, List.getElem?_map]
      rcases Nat.lt_or_ge j (zN ci) with hl | hl
      · rw [List.getElem?_range hl]
        simp [zFv, sI, vI, hj]
      · rw [List.getElem?_eq_none (by simpa using hl)]
        rfl
  · have h9 : ∀ c, zFv Z (sI V ci k a x) c b = zFv Z V c b := fun c => funext (fun j => by simp only [zFv, sI, vI, hb, and_false, if_false])
    simp only [va_up, if_neg hb]
    simp only [zE, h9]
    rfl
theorem z_putI (F : zFx Γ κ M R) {idx ci k a : Nat} {x : Int32} (hd : decode (mb M) pc = .ok (.putfield idx, 3)) (hk : zPI (mo M) idx ci k) (hfit : zFit ci k x) (ha : zIn S.1 a ci) (kk : zX Γ κ (S.1, sI S.2 ci k a x) cs sl Q (pc + 3) lv st) : zX Γ κ S cs sl Q pc lv (.int x :: .ref a :: st) := by
  intro H locs ls h1 h2 h3
  obtain ⟨q0, hq⟩ := zW_at (Γ := Γ) (S := S) ha.1
  obtain ⟨⟨C, T, N, hc, hci, hkN, hlink, hN, hD⟩, hi, hfin⟩ := hk
  have hq' := hq
  rw [zE_obj ha.2 hci] at hq'
  have hty := zTy_ok hc k hkN
  have hnf := zFit_ok (x := x) hty (by rw [← hD]; exact hfit)
  refine va_put (v := .int x) F.1 F.2.1 F.2.2.2.2.1 (fun w h => List.mem_cons_of_mem _ (zuw hc w h)) (zTy ci) (zTy_ok hc) (zNm_ok hc) F.2.2.2.1 F.2.2.2.2.2.2.2.2.2.2.1.1 h1.1 h1.2.1 h2 q0 hq' hc k hkN (F.2.2.2.2.1 _ (List.mem_cons_of_mem _ hlink)) (fun _ h => h) (hfin _ hc) hty hnf.1 hnf.2 (by simpa [hN] using hkN) hd (fun H1 locs1 hP hD1 hS => ?_)
  exact kk H1 locs1 ls (zHp_put (S' := (S.1, sI S.2 ci k a x)) (locs := locs) h1 ha.1 hq rfl (zE_sI ha.2 hci hi (by rw [hN]; exact hkN)) F.2.2.2.2.2.2.2.1 F.2.2.2.2.2.2.2.2.2.2.2 hP hD1 hS) hS h3
/-- arrays of ints -/
theorem zE_sA {cy : Nat → ClassId} {Z : Hz} {V : Hv} {a ci : Nat} {f : Nat → Int32} (ha : zK Z a = ci) (hc : ci = 10 ∨ ci = 11 ∨ ci = 12) (b : Nat) : zE cy Z (sA V a f) b = va_up (zE cy Z V) a (.inl (cy ci, zn Z a, .inl f)) b := by
  by_cases hb : b = a
  · subst hb
    simp only [va_up, if_true]
    rw [zE_ints ha hc]
    simp [sA, vA, va_up]
  · have h9 : va_up V.2.1 a f b = V.2.1 b := by simp only [va_up, if_neg hb]
    simp only [va_up, if_neg hb]
    simp only [zE, sA, vA, vJ, vI, h9]
    rfl
theorem z_iald (F : zFx Γ κ M R) {a : Nat} {i : Int32} (hd : decode (mb M) pc = .ok (.iaload, 1)) (ha : zIn S.1 a 11) (hin : vp_in i (zn S.1 a)) (kk : zX Γ κ S cs sl Q (pc + 1) lv (.int (vA S.2 a i.toNatClampNeg) :: st)) : zX Γ κ S cs sl Q pc lv (.int i :: .ref a :: st) := by
  intro H locs ls h1 h2 h3
  obtain ⟨q0, hq⟩ := zW_at (Γ := Γ) (S := S) ha.1
  rw [zE_ints ha.2 (Or.inr (Or.inl rfl))] at hq
  exact va_iald F.1 F.2.1 F.2.2.2.2.2.2.2.2.2.2.1.1 h1.1 q0 1 hq rfl hin hd (kk H locs ls h1 h2 h3)
theorem z_bald (F : zFx Γ κ M R) {a : Nat} {i : Int32} (hd : decode (mb M) pc = .ok (.baload, 1)) (ha : zIn S.1 a 10) (hin : vp_in i (zn S.1 a)) (kk : zX Γ κ S cs sl Q (pc + 1) lv (.int (vA S.2 a i.toNatClampNeg) :: st)) : zX Γ κ S cs sl Q pc lv (.int i :: .ref a :: st) := by
  intro H locs ls h1 h2 h3
  obtain ⟨q0, hq⟩ := zW_at (Γ := Γ) (S := S) ha.1
  rw [zE_ints ha.2 (Or.inl rfl)] at hq
  exact va_bald F.1 F.2.1 F.2.2.2.2.2.2.2.2.2.2.1.1 h1.1 q0 0 hq rfl hin hd (kk H locs ls h1 h2 h3)
theorem z_zald (F : zFx Γ κ M R) {a : Nat} {i : Int32} (hd : decode (mb M) pc = .ok (.baload, 1)) (ha : zIn S.1 a 12) (hin : vp_in i (zn S.1 a)) (kk : zX Γ κ S cs sl Q (pc + 1) lv (.int (vA S.2 a i.toNatClampNeg) :: st)) : zX Γ κ S cs sl Q pc lv (.int i :: .ref a :: st) := by
  intro H locs ls h1 h2 h3
  obtain ⟨q0, hq⟩ := zW_at (Γ := Γ) (S := S) ha.1
  rw [zE_ints ha.2 (Or.inr (Or.inr rfl))] at hq
  exact va_zald F.1 F.2.1 F.2.2.2.2.2.2.2.2.2.2.1.1 h1.1 q0 2 hq rfl hin hd (kk H locs ls h1 h2 h3)
theorem z_iast (F : zFx Γ κ M R) {a : Nat} {i x : Int32} (hd : decode (mb M) pc = .ok (.iastore, 1)) (ha : zIn S.1 a 11) (hin : vp_in i (zn S.1 a)) (kk : zX Γ κ (S.1, sA S.2 a (upd (vA S.2 a) i.toNatClampNeg x)) cs sl Q (pc + 1) lv st) : zX Γ κ S cs sl Q pc lv (.int x :: .int i :: .ref a :: st) := by
  intro H locs ls h1 h2 h3
  obtain ⟨q0, hq⟩ := zW_at (Γ := Γ) (S := S) ha.1
  have hq' := hq
  rw [zE_ints ha.2 (Or.inr (Or.inl rfl))] at hq'
  refine va_iast F.1 F.2.1 F.2.2.2.2.2.2.2.2.2.2.1.1 h1.1 h1.2.1 h2 q0 1 hq' rfl hin hd (fun H1 locs1 hP hD1 hS => ?_)
  exact kk H1 locs1 ls (zHp_put (S' := (S.1, sA S.2 a (upd (vA S.2 a) i.toNatClampNeg x))) (locs := locs) h1 ha.1 hq rfl (zE_sA ha.2 (Or.inr (Or.inl rfl))) F.2.2.2.2.2.2.2.1 F.2.2.2.2.2.2.2.2.2.2.2 hP hD1 hS) hS h3
theorem z_bast (F : zFx Γ κ M R) {a : Nat} {i x : Int32} (hd : decode (mb M) pc = .ok (.bastore, 1)) (ha : zIn S.1 a 10) (hin : vp_in i (zn S.1 a)) (kk : zX Γ κ (S.1, sA S.2 a (upd (vA S.2 a) i.toNatClampNeg (vp_nar .byte x))) cs sl Q (pc + 1) lv st) : zX Γ κ S cs sl Q pc lv (.int x :: .int i :: .ref a :: st) := by
  intro H locs ls h1 h2 h3
  obtain ⟨q0, hq⟩ := zW_at (Γ := Γ) (S := S) ha.1
  have hq' := hq
  rw [zE_ints ha.2 (Or.inl rfl)] at hq'
  refine va_bast F.1 F.2.1 F.2.2.2.2.2.2.2.2.2.2.1.1 h1.1 h1.2.1 h2 q0 0 hq' rfl hin hd (fun H1 locs1 hP hD1 hS => ?_)
  exact kk H1 locs1 ls (zHp_put (S' := (S.1, sA S.2 a (upd (vA S.2 a) i.toNatClampNeg (vp_nar .byte x)))) (locs := locs) h1 ha.1 hq rfl (zE_sA ha.2 (Or.inl rfl)) F.2.2.2.2.2.2.2.1 F.2.2.2.2.2.2.2.2.2.2.2 hP hD1 hS) hS h3
theorem z_zast (F : zFx Γ κ M R) {a : Nat} {i x : Int32} (hd : decode (mb M) pc = .ok (.bastore, 1)) (ha : zIn S.1 a 12) (hin : vp_in i (zn S.1 a)) (hx : x = 0 ∨ x = 1) (kk : zX Γ κ (S.1, sA S.2 a (upd (vA S.2 a) i.toNatClampNeg x)) cs sl Q (pc + 1) lv st) : zX Γ κ S cs sl Q pc lv (.int x :: .int i :: .ref a :: st) := by
  intro H locs ls h1 h2 h3
  obtain ⟨q0, hq⟩ := zW_at (Γ := Γ) (S := S) ha.1
  have hq' := hq
  rw [zE_ints ha.2 (Or.inr (Or.inr rfl))] at hq'
  have hx9 : vp_nar .boolean x = x := by rcases hx with rfl | rfl <;> decide +kernel
  refine va_zast F.1 F.2.1 F.2.2.2.2.2.2.2.2.2.2.1.1 h1.1 h1.2.1 h2 q0 2 hq' rfl hin hd (fun H1 locs1 hP hD1 hS => ?_)
  rw [hx9] at hP hD1
  exact kk H1 locs1 ls (zHp_put (S' := (S.1, sA S.2 a (upd (vA S.2 a) i.toNatClampNeg x))) (locs := locs) h1 ha.1 hq rfl (zE_sA ha.2 (Or.inr (Or.inr rfl))) F.2.2.2.2.2.2.2.1 F.2.2.2.2.2.2.2.2.2.2.2 hP hD1 hS) hS h3
theorem z_aald (F : zFx Γ κ M R) {a q : Nat} {i : Int32} (hd : decode (mb M) pc = .ok (.aaload, 1)) (ha : zIn S.1 a 13) (hin : vp_in i (zn S.1 a)) (hv : zA S.1 a i.toNatClampNeg = some q) (kk : zX Γ κ S cs sl Q (pc + 1) lv (.ref q :: st)) : zX Γ κ S cs sl Q pc lv (.int i :: .ref a :: st) := by
  intro H locs ls h1 h2 h3
  obtain ⟨q0, hq⟩ := zW_at (Γ := Γ) (S := S) ha.1
  rw [zE_refs ha.2] at hq
  exact va_aldq F.1 F.2.1 F.2.2.2.2.2.2.2.2.2.2.1.1 h1.1 q0 3 hq rfl hin hd (by rw [hv]; exact kk H locs ls h1 h2 h3)
theorem z_alen (F : zFx Γ κ M R) {a ci : Nat} (hd : decode (mb M) pc = .ok (.arraylength, 1)) (ha : zIn S.1 a ci) (hc : ci = 10 ∨ ci = 11 ∨ ci = 12 ∨ ci = 13) (kk : zX Γ κ S cs sl Q (pc + 1) lv (.int (nI (zn S.1 a)) :: st)) : zX Γ κ S cs sl Q pc lv (.ref a :: st) := by
  intro H locs ls h1 h2 h3
  obtain ⟨q0, hq⟩ := zW_at (Γ := Γ) (S := S) ha.1
  rcases hc with hc | hc | hc | hc
  · rw [zE_ints ha.2 (Or.inl hc)] at hq
    subst hc
    exact va_alen F.1 F.2.1 F.2.2.2.2.2.2.2.2.2.2.1.1 h1.1 q0 0 hq rfl rfl hd (kk H locs ls h1 h2 h3)
  · rw [zE_ints ha.2 (Or.inr (Or.inl hc))] at hq
    subst hc
    exact va_alen F.1 F.2.1 F.2.2.2.2.2.2.2.2.2.2.1.1 h1.1 q0 1 hq rfl rfl hd (kk H locs ls h1 h2 h3)
  · rw [zE_ints ha.2 (Or.inr (Or.inr hc))] at hq
    subst hc
    exact va_alen F.1 F.2.1 F.2.2.2.2.2.2.2.2.2.2.1.1 h1.1 q0 2 hq rfl rfl hd (kk H locs ls h1 h2 h3)
  · rw [zE_refs (hc ▸ ha.2)] at hq
    exact va_alen F.1 F.2.1 F.2.2.2.2.2.2.2.2.2.2.1.1 h1.1 q0 3 hq rfl rfl hd (kk H locs ls h1 h2 h3)
end HROWS
