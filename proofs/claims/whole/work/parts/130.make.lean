/-! ===== rows that make cells ===== -/
/-- the pool with a new cell q of kind ci, of length N if it is an array -/
def zpN (Z : Hz) (q ci N : Nat) : Hz := (zL Z ++ [q], va_up (zK Z) q ci, fun c k b => if b = q then none else zR Z c k b, va_up (zn Z) q N, va_up (zA Z) q (fun _ => none))
def vpN (V : Hv) (q : Nat) : Hv := (fun c k b => if b = q then 0 else vI V c k b, va_up (vA V) q (fun _ => 0), va_up (vJ V) q (fun _ => 0))
/-- a field of references set -/
def sZ (Z : Hz) (ci k a q : Nat) : Hz := (zL Z, zK Z, fun c j b => if c = ci ∧ j = k ∧ b = a then some q else zR Z c j b, zn Z, zA Z)
/-- an element of an array of references set -/
def sQ (Z : Hz) (a i q : Nat) : Hz := (zL Z, zK Z, zR Z, zn Z, va_up (zA Z) a (va_up (zA Z a) i (some q)))
theorem zE_new {cy : Nat → ClassId} {Z : Hz} {V : Hv} {q ci N : Nat} (b : Nat) : zE cy (zpN Z q ci N) (vpN V q) b = va_up (zE cy Z V) q (zE cy (zpN Z q ci N) (vpN V q) q) b := by
  by_cases hb : b = q
  · subst hb
    simp only [va_up, if_true]
  · have h1 : zK (zpN Z q ci N) b = zK Z b := up_ne _ _ hb
    have h2 : zn (zpN Z q ci N) b = zn Z b := up_ne _ _ hb
    have h3 : zA (zpN Z q ci N) b = zA Z b := up_ne _ _ hb
    have h4 : vA (vpN V q) b = vA V b := up_ne _ _ hb
    have h5 : vJ (vpN V q) b = vJ V b := up_ne _ _ hb
    have h6 : ∀ c, zFv (zpN Z q ci N) (vpN V q) c b = zFv Z V c b := fun c => funext (fun j => by simp only [zFv, zpN, vpN, vI, zR, if_neg hb])
    rw [up_ne _ _ hb]
    simp only [zE, h1, h2, h3, h4, h5, h6]
theorem zHp_push {Γ : Gm} {S : Hs} {H H1 : Heap} {locs : List Loc} {H0 : Heap} {q ci N : Nat} {e : va_E} (h : zHp Γ S H) (he : zE (gc Γ) (zpN S.1 q ci N) (vpN S.2 q) q = e) (h0 : (gH Γ).size ≤ H0.size) (h00 : ∀ q : Nat, q < (gH Γ).size → H0[q]? = (gH Γ)[q]?)
    (hP : va_P (gD Γ) vwCl (zW Γ S ++ [(q, e)]) H1) (hD : va_D (zA0 Γ) (zW Γ S ++ [(q, e)])) (hS : va_S (zA0 Γ) H0 H1 locs) : q ∉ zL S.1 ∧ (gH Γ).size ≤ q ∧ zHp Γ (zpN S.1 q ci N, vpN S.2 q) H1 := by
  have hlast : (zW Γ S ++ [(q, e)])[(zW Γ S).length]? = some (q, e) := by rw [List.getElem?_append_right (Nat.le_refl _), Nat.sub_self]; rfl
  have hq : q ∉ zL S.1 := fun hm => by
    obtain ⟨k, hk⟩ := zW_at (Γ := Γ) (S := S) hm
    have hl := (List.getElem?_eq_some_iff.mp hk).1
    have hk2 : (zW Γ S ++ [(q, e)])[k]? = some (q, zE (gc Γ) S.1 S.2 q) := by rw [List.getElem?_append_left hl]; exact hk
    have := hD.1 k _ _ _ hk2 hlast rfl
    omega
  have e1 : zW Γ S ++ [(q, e)] = zW Γ (zpN S.1 q ci N, vpN S.2 q) := by
    have e2 : va_pl (zL S.1) (zE (gc Γ) S.1 S.2) ++ [(q, e)] = va_pl (zL S.1 ++ [q]) (va_up (zE (gc Γ) S.1 S.2) q e) := va_pl_push hq
    refine e2.trans (va_pl_congr (fun b => ?_))
    rw [← he]
    exact (zE_new b).symm
  rw [e1] at hP hD
  refine ⟨hq, ?_, hP, hD, Nat.le_trans h0 hS.1, fun j hj => ?_⟩
  · rw [← e1] at hD
    exact hD.2 _ _ hlast
  · rw [← h00 j hj]
    exact hS.2.1 j (Nat.lt_of_lt_of_le hj h0) (fun hA => absurd hj (Nat.not_lt.mpr hA))
/-- kinds of field types: ints, references -/
def tyk : FieldType → Nat
  | .int => 0
  | .boolean => 0
  | .object _ => 1
  | .array _ => 1
  | _ => 2
def tyb (ci N : Nat) : Bool := (List.range N).all (fun k => tyk (zTy ci k) == (if zIs ci k = true then 0 else 1))
theorem tyk_ok {ci : Nat} {C : String} {T : u_T} {N : Nat} (hc : vwCl[ci]? = some (C, T, N)) : ∀ k, k < N → tyk (zTy ci k) = if zIs ci k = true then 0 else 1 := by
  have h : tyb ci N = true := by
    match ci, hc with
    | 0, hc => cases hc; decide +kernel
    | 1, hc => cases hc; decide +kernel
    | 2, hc => cases hc; decide +kernel
    | 3, hc => cases hc; decide +kernel
    | 4, hc => cases hc; decide +kernel
    | 5, hc => cases hc; decide +kernel
    | 6, hc => cases hc; decide +kernel
    | 7, hc => cases hc; decide +kernel
    | 8, hc => cases hc; decide +kernel
    | 9, hc => cases hc; decide +kernel
    | n + 10, hc => simp [vwCl] at hc
  intro k hk
  exact eq_of_beq (List.all_eq_true.mp h k (List.mem_range.mpr hk))
theorem ty_def {ty : FieldType} {b : Bool} (h : tyk ty = if b = true then 0 else 1) : defaultValue ty = if b = true then Value.int 0 else Value.null := by
  cases b <;> cases ty <;> first | rfl | (simp [tyk] at h)
theorem ty_ref {ty : FieldType} {q : Nat} (h : tyk ty = 1) : narrow ty (.ref q) = .ref q ∧ fits ty (.ref q) = true := by
  cases ty <;> first | (simp [tyk] at h; done) | exact ⟨rfl, rfl⟩
/-- a final field, set in its own class's <init> -/
def zPF (own : String) (idx ci k : Nat) : Prop := zFok own idx ci k ∧ ∀ q, vwCl[ci]? = some q → (q.2.1 k).2.2.2 = true ∧ (q.2.1 k).1 = own
theorem zE_sZ {cy : Nat → ClassId} {Z : Hz} {V : Hv} {a ci k q : Nat} (ha : zK Z a = ci) (hci : ci < 10) (hi : zIs ci k = false) (hk : k < zN ci) (b : Nat) : zE cy (sZ Z ci k a q) V b = va_up (zE cy Z V) a (.inr (ci, ((List.range (zN ci)).map (zFv Z V ci a)).set k (.ref q))) b := by
  by_cases hb : b = a
  · subst hb
    simp only [va_up, if_true]
    rw [zE_obj (Z := sZ Z ci k b q) ha hci]
    congr 2
    refine List.ext_getElem? (fun j => ?_)
    by_cases hj : j = k
    · subst hj
      rw [List.getElem?_set_self (by simpa using hk), List.getElem?_map, List.getElem?_range hk]
      simp [zFv, hi, sZ, zR, va_rf]
    · rw [List.getElem?_set_ne (Ne.symm hj), List.getElem?_map, List.getElem?_map]
      rcases Nat.lt_or_ge j (zN ci) with hl | hl
      · rw [List.getElem?_range hl]
        simp [zFv, sZ, zR, hj]
      · rw [List.getElem?_eq_none (by simpa using hl)]
        rfl
  · have h9 : ∀ c, zFv (sZ Z ci k a q) V c b = zFv Z V c b := fun c => funext (fun j => by simp only [zFv, sZ, zR, hb, and_false, if_false])
    simp only [va_up, if_neg hb]
    simp only [zE, h9]
    rfl
theorem zE_sQ {cy : Nat → ClassId} {Z : Hz} {V : Hv} {a i q : Nat} (ha : zK Z a = 13) (b : Nat) : zE cy (sQ Z a i q) V b = va_up (zE cy Z V) a (.inl (cy 13, zn Z a, .inr (.inr (.inr (.inr (va_up (zA Z a) i (some q))))))) b := by
  by_cases hb : b = a
  · subst hb
    simp only [va_up, if_true]
    rw [zE_refs (Z := sQ Z b i q) ha]
    simp [sQ, zA, zn, va_up]
  · have h9 : va_up (zA Z) a (va_up (zA Z a) i (some q)) b = zA Z b := up_ne _ _ hb
    have h8 : zA (sQ Z a i q) b = zA Z b := h9
    simp only [va_up, if_neg hb]
    simp only [zE, h8]
    rfl
section MAKE
variable {Γ : Gm} {κ : Cx} {S : Hs} {cs sl pc : Nat} {Q : State → Prop} {lv : Lv} {st : List Value} {M M' : Mm} {R : Room} {idx ci k a q : Nat}
theorem F_A (F : zFx Γ κ M R) : ∀ q, (ks κ).heap.size ≤ q → zA0 Γ q := fun q h => Nat.le_trans F.2.2.2.2.2.2.2.1 h
theorem z_new (F : zFx Γ κ M R) {C : String} {T : u_T} {N : Nat} (hd : decode (mb M) pc = .ok (.new idx, 3)) (hcl : Cond.classLink (mo M) idx C ∈ tz) (hins : Cond.instantiable C N ∈ tz) (hini : Cond.initialized C ∈ tz) (hc : vwCl[ci]? = some (C, T, N)) (hci : ci < 10) (hN : zN ci = N) (hR : cs + 1 ≤ R.cells ∧ sl + N ≤ R.slots)
    (kk : ∀ q, q ∉ zL S.1 → (gH Γ).size ≤ q → zX Γ κ (zpN S.1 q ci 0, vpN S.2 q) (cs + 1) (sl + N) Q (pc + 3) lv (.ref q :: st)) : zX Γ κ S cs sl Q pc lv st := by
  intro H locs ls h1 h2 h3
  have hRk : kR κ = R := F.2.2.2.2.2.2.2.2.2.1
  have hts := F.2.2.2.2.1
  refine va_new (fs := (List.range N).map (fun j => if zIs ci j = true then Value.int 0 else Value.null)) F.1 F.2.1 hts (fun w h => List.mem_cons_of_mem _ (zuw hc w h)) (zTy ci) (zTy_ok hc) F.2.2.2.1 (hts _ (List.mem_cons_of_mem _ hcl)) (hts _ (List.mem_cons_of_mem _ hins)) (hts _ (List.mem_cons_of_mem _ hini)) F.2.2.2.2.2.2.2.2.2.2.1.1 h1.1 h1.2.1 h2 (F_A F) hc (fun j hj => ?_) (by rw [hRk]; exact hR.1) (by rw [hRk]; exact hR.2) hd (fun q H1 hP hD hS => ?_)
  · rw [ty_def (tyk_ok hc j hj)]
    simp [vp_V, List.getD_eq_getElem?_getD, List.getElem?_map, List.getElem?_range hj]
  · obtain ⟨p1, p2, p3⟩ := zHp_push (ci := ci) (N := 0) h1 (by
      rw [zE_obj (Z := zpN S.1 q ci 0) (ci := ci) (up_self _ _ _) hci, hN]
      congr 2
      refine List.map_congr_left (fun j hj => ?_)
      simp only [zFv, zpN, vpN, vI, zR, if_true]
      rfl) F.2.2.2.2.2.2.2.1 F.2.2.2.2.2.2.2.2.2.2.2 hP hD hS
    exact kk q p1 p2 H1 locs ls p3 hS h3
theorem va_RA_eq {U : State} {cA cB : ClassId} {ty : FieldType} (h1 : va_RA U cA ty) (h2 : va_RA U cB ty) : cA = cB := by
  cases ty with
  | object C =>
    obtain ⟨_, _, _, _, _, e1⟩ := h1
    obtain ⟨_, _, _, _, _, e2⟩ := h2
    exact Option.some.inj (e1.symm.trans e2)
  | _ => exact Option.some.inj (h1.symm.trans h2)
/-- newarray, by kind and type -/
theorem z_newA (F : zFx Γ κ M R) {at' : ArrayType} {ty : FieldType} {t0 : Nat} {N : Nat} {n : Int32} (hd : decode (mb M) pc = .ok (.newarray at', 2)) (hac : Cond.arrayClass ty ∈ tz) (hty : newarray.typeOf at' = ty) (ht0 : (zTys (gc Γ))[t0]? = some (gc Γ ci, ty)) (hk : (ty = .int ∧ ci = 11) ∨ (ty = .byte ∧ ci = 10) ∨ (ty = .boolean ∧ ci = 12) ∨ (ty = .long ∧ ci = 14)) (hn : n = nI N) (hN : N < 100000) (hR : cs + 1 ≤ R.cells ∧ sl + N ≤ R.slots)
    (kk : ∀ q, q ∉ zL S.1 → (gH Γ).size ≤ q → zX Γ κ (zpN S.1 q ci N, vpN S.2 q) (cs + 1) (sl + N) Q (pc + 2) lv (.ref q :: st)) : zX Γ κ S cs sl Q pc lv (.int n :: st) := by
  intro H locs ls h1 h2 h3
  have hRk : kR κ = R := F.2.2.2.2.2.2.2.2.2.1
  have hts := F.2.2.2.2.1
  have hneg : ¬ n < 0 := by rw [hn]; exact nI_pos (by omega)
  have hcl : n.toNatClampNeg = N := by rw [hn]; exact nI_clamp (by omega)
  obtain ⟨a0, ha, he⟩ : ∃ a0 : vp_A, (∀ cA : ClassId, vp_cell cA a0 = arrV cA N (fun _ => defaultValue ty)) ∧ ∀ q, zE (gc Γ) (zpN S.1 q ci N) (vpN S.2 q) q = .inl (gc Γ ci, a0) := by
    rcases hk with ⟨rfl, rfl⟩ | ⟨rfl, rfl⟩ | ⟨rfl, rfl⟩ | ⟨rfl, rfl⟩
    · refine ⟨(N, .inl (fun _ => 0)), fun _ => rfl, fun q => ?_⟩
      rw [zE_ints (Z := zpN S.1 q 11 N) (ci := 11) (up_self _ _ _) (Or.inr (Or.inl rfl))]
      show Sum.inl (_, va_up (zn S.1) q N q, Sum.inl (va_up (vA S.2) q (fun _ => 0) q)) = _
      rw [up_self, up_self]
    · refine ⟨(N, .inl (fun _ => 0)), fun _ => rfl, fun q => ?_⟩
      rw [zE_ints (Z := zpN S.1 q 10 N) (ci := 10) (up_self _ _ _) (Or.inl rfl)]
      show Sum.inl (_, va_up (zn S.1) q N q, Sum.inl (va_up (vA S.2) q (fun _ => 0) q)) = _
      rw [up_self, up_self]
    · refine ⟨(N, .inl (fun _ => 0)), fun _ => rfl, fun q => ?_⟩
      rw [zE_ints (Z := zpN S.1 q 12 N) (ci := 12) (up_self _ _ _) (Or.inr (Or.inr rfl))]
      show Sum.inl (_, va_up (zn S.1) q N q, Sum.inl (va_up (vA S.2) q (fun _ => 0) q)) = _
      rw [up_self, up_self]
    · refine ⟨(N, .inr (.inl (fun _ => 0))), fun _ => rfl, fun q => ?_⟩
      rw [zE_longs (Z := zpN S.1 q 14 N) (up_self _ _ _)]
      show Sum.inl (_, va_up (zn S.1) q N q, Sum.inr (Sum.inl (va_up (vJ S.2) q (fun _ => 0) q))) = _
      rw [up_self, up_self]
  have hby : N * componentBytes ty ≤ 536870912 := by
    have : componentBytes ty ≤ 8 := by rcases hk with ⟨rfl, -⟩ | ⟨rfl, -⟩ | ⟨rfl, -⟩ | ⟨rfl, -⟩ <;> decide
    calc N * componentBytes ty ≤ 100000 * 8 := Nat.mul_le_mul (by omega) this
      _ ≤ 536870912 := by decide
  have hK := F.2.2.2.2.2.2.2.2.2.2.1.1
  refine va_newa (a0 := a0) F.1 F.2.1 (by rw [hty]; exact hts _ (List.mem_cons_of_mem _ hac)) hty hK h1.1 h1.2.1 h2 (F_A F) ha hneg hcl hby (by rw [hRk]; exact hR.1) (by rw [hRk]; exact hR.2) hd (fun q cA H1 hK1 hP hD hS => ?_)
  have hcA : cA = gc Γ ci := by
    have k1 := (hK.2 t0 _ ht0).2
    have k2 := (hK1.2 (zTys (gc Γ)).length (cA, ty) (by rw [List.getElem?_append_right (Nat.le_refl _), Nat.sub_self]; rfl)).2
    exact va_RA_eq k2 k1
  subst hcA
  obtain ⟨p1, p2, p3⟩ := zHp_push (ci := ci) (N := N) h1 (he q) F.2.2.2.2.2.2.2.1 F.2.2.2.2.2.2.2.2.2.2.2 hP hD hS
  exact kk q p1 p2 H1 locs ls p3 hS h3
theorem z_newQ (F : zFx Γ κ M R) {N : Nat} {n : Int32} (hd : decode (mb M) pc = .ok (.anewarray idx, 3)) (hcl : Cond.classLink (mo M) idx "FractionRows$Fraction" ∈ tz) (hn : n = nI N) (hN : N < 100000) (hR : cs + 1 ≤ R.cells ∧ sl + N ≤ R.slots)
    (kk : ∀ q, q ∉ zL S.1 → (gH Γ).size ≤ q → zX Γ κ (zpN S.1 q 13 N, vpN S.2 q) (cs + 1) (sl + N) Q (pc + 3) lv (.ref q :: st)) : zX Γ κ S cs sl Q pc lv (.int n :: st) := by
  intro H locs ls h1 h2 h3
  have hRk : kR κ = R := F.2.2.2.2.2.2.2.2.2.1
  have hts := F.2.2.2.2.1
  have hneg : ¬ n < 0 := by rw [hn]; exact nI_pos (by omega)
  have hcl' : n.toNatClampNeg = N := by rw [hn]; exact nI_clamp (by omega)
  have hK := F.2.2.2.2.2.2.2.2.2.2.1.1
  refine va_newq F.1 F.2.1 F.2.2.2.1 (hts _ (List.mem_cons_of_mem _ hcl)) F.2.2.2.2.2.2.2.2.2.2.1.2.2.2.1 hK h1.1 h1.2.1 h2 (F_A F) hneg hcl' (by omega) (by rw [hRk]; exact hR.1) (by rw [hRk]; exact hR.2) hd (fun q cA H1 hK1 hP hD hS => ?_)
  have hcA : cA = gc Γ 13 := by
    have k1 := (hK.2 3 _ rfl).2
    have k2 := (hK1.2 (zTys (gc Γ)).length (cA, .object "FractionRows$Fraction") (by rw [List.getElem?_append_right (Nat.le_refl _), Nat.sub_self]; rfl)).2
    exact va_RA_eq k2 k1
  subst hcA
  obtain ⟨p1, p2, p3⟩ := zHp_push (ci := 13) (N := N) h1 (by
    rw [zE_refs (Z := zpN S.1 q 13 N) (up_self _ _ _)]
    show Sum.inl (_, va_up (zn S.1) q N q, Sum.inr (Sum.inr (Sum.inr (Sum.inr (va_up (zA S.1) q (fun _ => none) q))))) = _
    rw [up_self, up_self]) F.2.2.2.2.2.2.2.1 F.2.2.2.2.2.2.2.2.2.2.2 hP hD hS
  exact kk q p1 p2 H1 locs ls p3 hS h3
theorem z_putR (F : zFx Γ κ M R) (hd : decode (mb M) pc = .ok (.putfield idx, 3)) (hk : zPF (mo M) idx ci k) (hi : zIs ci k = false) (hnm : (my M).name = "<init>") (ha : zIn S.1 a ci) (kk : zX Γ κ (sZ S.1 ci k a q, S.2) cs sl Q (pc + 3) lv st) : zX Γ κ S cs sl Q pc lv (.ref q :: .ref a :: st) := by
  intro H locs ls h1 h2 h3
  obtain ⟨q0, hq⟩ := zW_at (Γ := Γ) (S := S) ha.1
  obtain ⟨⟨C, T, N, hc, hci, hkN, hlink, hN, hD⟩, hfin⟩ := hk
  have hq' := hq
  rw [zE_obj ha.2 hci] at hq'
  have hty := zTy_ok hc k hkN
  have hnf := ty_ref (q := q) (show tyk (zTy ci k) = 1 by rw [tyk_ok hc k hkN, hi]; rfl)
  have hf := hfin _ hc
  refine va_putF (v := .ref q) F.1 F.2.1 F.2.2.2.2.1 (fun w h => List.mem_cons_of_mem _ (zuw hc w h)) (zTy ci) (zTy_ok hc) (zNm_ok hc) F.2.2.2.1 F.2.2.2.2.2.2.2.2.2.2.1.1 h1.1 h1.2.1 h2 q0 hq' hc k hkN (F.2.2.2.2.1 _ (List.mem_cons_of_mem _ hlink)) (fun _ h => h) hf.1 (F.2.2.2.2.2.2.2.2.1.trans hnm) hf.2 hty hnf.1 hnf.2 (by simpa [hN] using hkN) hd (fun H1 locs1 hP hD1 hS => ?_)
  exact kk H1 locs1 ls (zHp_put (S' := (sZ S.1 ci k a q, S.2)) (locs := locs) h1 ha.1 hq rfl (zE_sZ ha.2 hci hi (by rw [hN]; exact hkN)) F.2.2.2.2.2.2.2.1 F.2.2.2.2.2.2.2.2.2.2.2 hP hD1 hS) hS h3
theorem z_putF (F : zFx Γ κ M R) {x : Int32} (hd : decode (mb M) pc = .ok (.putfield idx, 3)) (hk : zPF (mo M) idx ci k) (hi : zIs ci k = true) (hfit : zFit ci k x) (hnm : (my M).name = "<init>") (ha : zIn S.1 a ci) (kk : zX Γ κ (S.1, sI S.2 ci k a x) cs sl Q (pc + 3) lv st) : zX Γ κ S cs sl Q pc lv (.int x :: .ref a :: st) := by
  intro H locs ls h1 h2 h3
  obtain ⟨q0, hq⟩ := zW_at (Γ := Γ) (S := S) ha.1
  obtain ⟨⟨C, T, N, hc, hci, hkN, hlink, hN, hD⟩, hfin⟩ := hk
  have hq' := hq
  rw [zE_obj ha.2 hci] at hq'
  have hty := zTy_ok hc k hkN
  have hnf := zFit_ok (x := x) hty (by rw [← hD]; exact hfit)
  have hf := hfin _ hc
  refine va_putF (v := .int x) F.1 F.2.1 F.2.2.2.2.1 (fun w h => List.mem_cons_of_mem _ (zuw hc w h)) (zTy ci) (zTy_ok hc) (zNm_ok hc) F.2.2.2.1 F.2.2.2.2.2.2.2.2.2.2.1.1 h1.1 h1.2.1 h2 q0 hq' hc k hkN (F.2.2.2.2.1 _ (List.mem_cons_of_mem _ hlink)) (fun _ h => h) hf.1 (F.2.2.2.2.2.2.2.2.1.trans hnm) hf.2 hty hnf.1 hnf.2 (by simpa [hN] using hkN) hd (fun H1 locs1 hP hD1 hS => ?_)
  exact kk H1 locs1 ls (zHp_put (S' := (S.1, sI S.2 ci k a x)) (locs := locs) h1 ha.1 hq rfl (zE_sI ha.2 hci hi (by rw [hN]; exact hkN)) F.2.2.2.2.2.2.2.1 F.2.2.2.2.2.2.2.2.2.2.2 hP hD1 hS) hS h3
theorem z_aast (F : zFx Γ κ M R) {i : Int32} (hd : decode (mb M) pc = .ok (.aastore, 1)) (ha : zIn S.1 a 13) (hv : zIn S.1 q 3) (hin : vp_in i (zn S.1 a)) (kk : zX Γ κ (sQ S.1 a i.toNatClampNeg q, S.2) cs sl Q (pc + 1) lv st) : zX Γ κ S cs sl Q pc lv (.ref q :: .int i :: .ref a :: st) := by
  intro H locs ls h1 h2 h3
  obtain ⟨q0, hq⟩ := zW_at (Γ := Γ) (S := S) ha.1
  obtain ⟨q1, hq1⟩ := zW_at (Γ := Γ) (S := S) hv.1
  have hq' := hq
  rw [zE_refs ha.2] at hq'
  rw [zE_obj hv.2 (by decide)] at hq1
  refine va_astq F.1 F.2.1 F.2.2.2.2.2.2.2.2.2.2.1.1 h1.1 h1.2.1 h2 q0 3 q1 3 hq' rfl hq1 rfl hin hd (fun H1 locs1 hP hD1 hS => ?_)
  exact kk H1 locs1 ls (zHp_put (S' := (sQ S.1 a i.toNatClampNeg q, S.2)) (locs := locs) h1 ha.1 hq rfl (zE_sQ ha.2) F.2.2.2.2.2.2.2.1 F.2.2.2.2.2.2.2.2.2.2.2 hP hD1 hS) hS h3
theorem zE_sJ {cy : Nat → ClassId} {Z : Hz} {V : Hv} {a : Nat} {f : Nat → Int64} (ha : zK Z a = 14) (b : Nat) : zE cy Z (sJ V a f) b = va_up (zE cy Z V) a (.inl (cy 14, zn Z a, .inr (.inl f))) b := by
  by_cases hb : b = a
  · subst hb
    simp only [va_up, if_true]
    rw [zE_longs ha]
    simp [sJ, vJ, va_up]
  · have h9 : va_up V.2.2 a f b = V.2.2 b := by simp only [va_up, if_neg hb]
    simp only [va_up, if_neg hb]
    simp only [zE, sJ, vA, vJ, vI, h9]
    rfl
theorem z_lald (F : zFx Γ κ M R) {i : Int32} (hd : decode (mb M) pc = .ok (.laload, 1)) (ha : zIn S.1 a 14) (hin : vp_in i (zn S.1 a)) (kk : zX Γ κ S cs sl Q (pc + 1) lv (.long (vJ S.2 a i.toNatClampNeg) :: st)) : zX Γ κ S cs sl Q pc lv (.int i :: .ref a :: st) := by
  intro H locs ls h1 h2 h3
  obtain ⟨q0, hq⟩ := zW_at (Γ := Γ) (S := S) ha.1
  rw [zE_longs ha.2] at hq
  exact va_lald F.1 F.2.1 F.2.2.2.2.2.2.2.2.2.2.1.1 h1.1 q0 4 hq rfl hin hd (kk H locs ls h1 h2 h3)
theorem z_last (F : zFx Γ κ M R) {i : Int32} {x : Int64} (hd : decode (mb M) pc = .ok (.lastore, 1)) (ha : zIn S.1 a 14) (hin : vp_in i (zn S.1 a)) (kk : zX Γ κ (S.1, sJ S.2 a (vp_updL (vJ S.2 a) i.toNatClampNeg x)) cs sl Q (pc + 1) lv st) : zX Γ κ S cs sl Q pc lv (.long x :: .int i :: .ref a :: st) := by
  intro H locs ls h1 h2 h3
  obtain ⟨q0, hq⟩ := zW_at (Γ := Γ) (S := S) ha.1
  have hq' := hq
  rw [zE_longs ha.2] at hq'
  refine va_last F.1 F.2.1 F.2.2.2.2.2.2.2.2.2.2.1.1 h1.1 h1.2.1 h2 q0 4 hq' rfl hin hd (fun H1 locs1 hP hD1 hS => ?_)
  exact kk H1 locs1 ls (zHp_put (S' := (S.1, sJ S.2 a (vp_updL (vJ S.2 a) i.toNatClampNeg x))) (locs := locs) h1 ha.1 hq rfl (zE_sJ ha.2) F.2.2.2.2.2.2.2.1 F.2.2.2.2.2.2.2.2.2.2.2 hP hD1 hS) hS h3
theorem z_obj (F : zFx Γ κ M R) (hd : decode (mb M) pc = .ok (.invokespecial idx, 3)) (hml : Cond.methodLink (mo M) idx ⟨"java/lang/Object", "<init>", "()V"⟩ ∈ tz) (hlen : lv.length = ml M) (hR : 1 ≤ R.frames ∧ (st.map fun v => v.category).sum + 12 ≤ R.locals) (kk : zX Γ κ S cs sl Q (pc + 3) lv st) : zX Γ κ S cs sl Q pc lv (.ref a :: st) := by
  intro H locs ls h1 h2 h3
  have hts := F.2.2.2.2.1
  have hRk : kR κ = R := F.2.2.2.2.2.2.2.2.2.1
  refine W.objInit (a := a) (rest := st) F.1 F.2.1 F.2.2.2.1 (hts _ (List.mem_cons_of_mem _ hml)) (hts _ (List.mem_cons_of_mem _ im_java_lang_Object__init_)) (hts _ (List.mem_cons_of_mem _ co_obj)) rfl ?_ rfl hd (by rw [hRk]; exact hR.1) ?_ (kk H locs ls h1 h2 h3)
  · show ls.size = (kc κ).maxLocals
    rw [F.2.2.1]
    exact h3.1.trans hlen
  · rw [hRk]
    show 2 * 0 + _ + 12 ≤ _
    rw [Nat.mul_zero, Nat.zero_add]
    exact hR.2
/-- invokespecial of a constructor -/
theorem z_callI (F : zFx Γ κ M R) {fr lo mc ms n b : Nat} {As rest : List Value} {P : Hs → Prop} (hC : zCt Γ M' fr lo mc ms (.ref b :: As) S (pV P)) (hd : decode (mb M) pc = .ok (.invokespecial idx, 3)) (hml : Cond.methodLink (mo M) idx (my M') ∈ tz) (hok : zMok M' n) (him : Cond.instanceMethod (my M') ∈ tz) (hnm : (my M').name = "<init>") (hret : mr M' = none) (hn : As.length = n) (hlen : lv.length = ml M) (hst : st = As.reverse ++ .ref b :: rest) (hrm : (rest.map fun v => v.category).sum ≤ 8) (hR : fr + 1 ≤ R.frames ∧ 8 + (ml M' + 11) + lo ≤ R.locals) (hf : cs + mc ≤ R.cells ∧ sl + ms ≤ R.slots)
    (kk : ∀ S', P S' → zX Γ κ S' (cs + mc) (sl + ms) Q (pc + 3) lv rest) : zX Γ κ S cs sl Q pc lv st := by
  intro H locs ls h1 h2 h3
  obtain ⟨ho, hd9, hini, hco⟩ := hok
  have hts := F.2.2.2.2.1
  have hRk : kR κ = R := F.2.2.2.2.2.2.2.2.2.1
  have hG : GoodIn (mw M) (mw M') := zGood (pre := []) (fun w hw => by cases hw) hco
  have hini' : Cond.initialized (my M').cls ∈ tz := by rw [ho]; exact hini
  exact z_run (va_runI (y := my M') (ws := mw M') (bytes := mb M') (maxL := ml M') (own := mo M) (Ts := mw M) (nL := ml M) (n := n) (As := As) (rest := rest) (b := b) ⟨F.1, F.2.1, F.2.2.1, F.2.2.2.1, hts⟩ hC (cwI (ws' := tz) n hts hG (by show _ = Cond.code (my M') (mb M') (ml M') none :: tz; rw [← hret]) rfl rfl (hts _ (List.mem_cons_of_mem _ hini')) (hts _ (List.mem_cons_of_mem _ hml)) (hts _ (List.mem_cons_of_mem _ him)) hnm hd9 (by rw [hRk]; exact hR)) ⟨zPre_blind, fun U hU hW => ⟨rfl, F.2.2.2.2.2.2.2.2.2.2.1.warm hW, by rw [hU]; exact h1⟩⟩ rfl hn (h3.1.trans hlen) hst (lv_room hrm) hd (by rw [hRk]; exact hf)) h1 h2 h3 F.2.2.2.2.2.2.2.2.2.2.2 (fun r S' h => by obtain ⟨rfl, h⟩ := h; exact kk S' h)
/-- of a nest mate's -/
theorem z_callN (F : zFx Γ κ M R) {fr lo mc ms n b : Nat} {As rest : List Value} {P : Hs → Prop} (hC : zCt Γ M' fr lo mc ms (.ref b :: As) S (pV P)) (hd : decode (mb M) pc = .ok (.invokespecial idx, 3)) (hml : (mo M, idx, my M', "FractionRows") ∈ zNM) (hok : zMok M' n) (him : Cond.instanceMethod (my M') ∈ tz) (hnm : (my M').name = "<init>") (hret : mr M' = none) (hn : As.length = n) (hlen : lv.length = ml M) (hst : st = As.reverse ++ .ref b :: rest) (hrm : (rest.map fun v => v.category).sum ≤ 8) (hR : fr + 1 ≤ R.frames ∧ 8 + (ml M' + 11) + lo ≤ R.locals) (hf : cs + mc ≤ R.cells ∧ sl + ms ≤ R.slots)
    (kk : ∀ S', P S' → zX Γ κ S' (cs + mc) (sl + ms) Q (pc + 3) lv rest) : zX Γ κ S cs sl Q pc lv st := by
  intro H locs ls h1 h2 h3
  obtain ⟨ho, hd9, hini, hco⟩ := hok
  have hts := F.2.2.2.2.1
  have hRk : kR κ = R := F.2.2.2.2.2.2.2.2.2.1
  have hG : GoodIn (mw M) (mw M') := zGood (pre := []) (fun w hw => by cases hw) hco
  have hini' : Cond.initialized (my M').cls ∈ tz := by rw [ho]; exact hini
  exact z_run (va_runIN (y := my M') (ws := mw M') (bytes := mb M') (maxL := ml M') (own := mo M) (host := "FractionRows") (Ts := mw M) (nL := ml M) (n := n) (As := As) (rest := rest) (b := b) ⟨F.1, F.2.1, F.2.2.1, F.2.2.2.1, hts⟩ hC ⟨va_cnB (ws' := tz) n hts hG (by show _ = Cond.code (my M') (mb M') (ml M') none :: tz; rw [← hret]) rfl rfl (F.2.2.2.2.2.2.2.2.2.2.1.2.2.1 _ hml) (hts _ (List.mem_cons_of_mem _ hini')) hd9 (by rw [hRk]; exact hR), hnm, hts _ (List.mem_cons_of_mem _ him)⟩ ⟨zPre_blind, fun U hU hW => ⟨rfl, F.2.2.2.2.2.2.2.2.2.2.1.warm hW, by rw [hU]; exact h1⟩⟩ rfl hn (h3.1.trans hlen) hst (lv_room hrm) hd (by rw [hRk]; exact hf)) h1 h2 h3 F.2.2.2.2.2.2.2.2.2.2.2 (fun r S' h => by obtain ⟨rfl, h⟩ := h; exact kk S' h)
end MAKE
