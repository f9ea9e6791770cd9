/-! ===== rows of the JDK's own: Math.max, min, abs; System.arraycopy ===== -/
section JDKR
variable {Γ : Gm} {κ : Cx} {S : Hs} {cs sl pc : Nat} {Q : State → Prop} {lv : Lv} {st : List Value} {M : Mm} {R : Room}
theorem z_max (F : zFx Γ κ M R) {idx : Nat} {x y : Int32} (hd : decode (mb M) pc = .ok (.invokestatic idx, 3)) (hml : Cond.methodLink (mo M) idx yJ9_max_7cf53 ∈ tz) (hlen : lv.length = ml M) (hrm : 1 ≤ R.frames ∧ (st.map fun v => v.category).sum + 13 ≤ R.locals) (hf : cs ≤ R.cells ∧ sl ≤ R.slots) (kk : zX Γ κ S cs sl Q (pc + 3) lv (.int (if x < y then y else x) :: st)) : zX Γ κ S cs sl Q pc lv (.int y :: .int x :: st) := by
  intro H locs ls h1 h2 h3
  have hts := F.2.2.2.2.1
  have hRk : kR κ = R := F.2.2.2.2.2.2.2.2.2.1
  exact va_mmax F.1 F.2.1 (F.2.2.1.trans ((h3.1.trans hlen).symm)) F.2.2.2.1 (hts _ (List.mem_cons_of_mem _ hml)) (hts _ (List.mem_cons_of_mem _ stc_J9_max_7cf53)) (hts _ (List.mem_cons_of_mem _ ini_J9)) (hts _ (List.mem_cons_of_mem _ co_J9_max_7cf53)) (by rw [hRk]; exact hrm.1) (by rw [hRk]; exact hrm.2) (by rw [hRk]; exact hf.1) (by rw [hRk]; exact hf.2) hd (kk H locs ls h1 h2 h3)
theorem z_min (F : zFx Γ κ M R) {idx : Nat} {x y : Int32} (hd : decode (mb M) pc = .ok (.invokestatic idx, 3)) (hml : Cond.methodLink (mo M) idx yJ9_min_7cf53 ∈ tz) (hlen : lv.length = ml M) (hrm : 1 ≤ R.frames ∧ (st.map fun v => v.category).sum + 13 ≤ R.locals) (hf : cs ≤ R.cells ∧ sl ≤ R.slots) (kk : zX Γ κ S cs sl Q (pc + 3) lv (.int (if y < x then y else x) :: st)) : zX Γ κ S cs sl Q pc lv (.int y :: .int x :: st) := by
  intro H locs ls h1 h2 h3
  have hts := F.2.2.2.2.1
  have hRk : kR κ = R := F.2.2.2.2.2.2.2.2.2.1
  exact va_mmin F.1 F.2.1 (F.2.2.1.trans ((h3.1.trans hlen).symm)) F.2.2.2.1 (hts _ (List.mem_cons_of_mem _ hml)) (hts _ (List.mem_cons_of_mem _ stc_J9_min_7cf53)) (hts _ (List.mem_cons_of_mem _ ini_J9)) (hts _ (List.mem_cons_of_mem _ co_J9_min_7cf53)) (by rw [hRk]; exact hrm.1) (by rw [hRk]; exact hrm.2) (by rw [hRk]; exact hf.1) (by rw [hRk]; exact hf.2) hd (kk H locs ls h1 h2 h3)
theorem z_absl (F : zFx Γ κ M R) {idx : Nat} {x : Int64} (hd : decode (mb M) pc = .ok (.invokestatic idx, 3)) (hml : Cond.methodLink (mo M) idx yJ9_abs_067f4 ∈ tz) (hlen : lv.length = ml M) (hrm : 1 ≤ R.frames ∧ (st.map fun v => v.category).sum + 13 ≤ R.locals) (hf : cs ≤ R.cells ∧ sl ≤ R.slots) (kk : zX Γ κ S cs sl Q (pc + 3) lv (.long (if 0 < x then x else -x) :: st)) : zX Γ κ S cs sl Q pc lv (.long x :: st) := by
  intro H locs ls h1 h2 h3
  have hts := F.2.2.2.2.1
  have hRk : kR κ = R := F.2.2.2.2.2.2.2.2.2.1
  exact va_mabs_long F.1 F.2.1 (F.2.2.1.trans ((h3.1.trans hlen).symm)) F.2.2.2.1 (hts _ (List.mem_cons_of_mem _ hml)) (hts _ (List.mem_cons_of_mem _ stc_J9_abs_067f4)) (hts _ (List.mem_cons_of_mem _ ini_J9)) (hts _ (List.mem_cons_of_mem _ co_J9_abs_067f4)) (by rw [hRk]; exact hrm.1) (by rw [hRk]; exact hrm.2) (by rw [hRk]; exact hf.1) (by rw [hRk]; exact hf.2) hd (kk H locs ls h1 h2 h3)
theorem z_copy (F : zFx Γ κ M R) {idx a a0 : Nat} {sp dp n : Int32} (hd : decode (mb M) pc = .ok (.invokestatic idx, 3)) (hml : Cond.methodLink (mo M) idx arraycopyName ∈ tz) (hlen : lv.length = ml M) (hrm : 1 ≤ R.frames ∧ (st.map fun v => v.category).sum + (nativeFrameWords "java/lang/System" "arraycopy" 5 + 11) ≤ R.locals) (ha0 : zIn S.1 a0 11) (ha : zIn S.1 a 11)
    (h1 : ¬ sp < 0) (h2 : ¬ dp < 0) (h3 : ¬ n < 0) (h4 : sp.toNatClampNeg + n.toNatClampNeg ≤ zn S.1 a0) (h5 : dp.toNatClampNeg + n.toNatClampNeg ≤ zn S.1 a) (kk : zX Γ κ (S.1, sA S.2 a (va_cpy (vA S.2 a0) (vA S.2 a) sp.toNatClampNeg dp.toNatClampNeg n.toNatClampNeg)) cs sl Q (pc + 3) lv st) : zX Γ κ S cs sl Q pc lv (.int n :: .int dp :: .ref a :: .int sp :: .ref a0 :: st) := by
  intro H locs ls k1 k2 k3
  have hts := F.2.2.2.2.1
  have hRk : kR κ = R := F.2.2.2.2.2.2.2.2.2.1
  obtain ⟨q0, hq0⟩ := zW_at (Γ := Γ) (S := S) ha0.1
  obtain ⟨q1, hq1⟩ := zW_at (Γ := Γ) (S := S) ha.1
  have hq1' := hq1
  rw [zE_ints ha0.2 (Or.inr (Or.inl rfl))] at hq0
  rw [zE_ints ha.2 (Or.inr (Or.inl rfl))] at hq1'
  refine va_copyi (ty := .int) F.1 F.2.1 (F.2.2.1.trans ((k3.1.trans hlen).symm)) F.2.2.2.1 (hts _ (List.mem_cons_of_mem _ hml)) (hts _ (List.mem_cons_of_mem _ nat_java_lang_System_arraycopy)) (hts _ (List.mem_cons_of_mem _ stc_java_lang_System_arraycopy)) (hts _ (List.mem_cons_of_mem _ ini_J10)) F.2.2.2.2.2.2.2.2.2.2.1.1 k1.1 k1.2.1 k2 q0 q1 1 1 hq0 hq1' rfl rfl rfl h1 h2 h3 h4 h5 (fun _ _ => rfl) (by rw [hRk]; exact hrm.1) (by rw [hRk]; exact hrm.2) hd (fun H1 locs1 hP hD1 hS => ?_)
  exact kk H1 locs1 ls (zHp_put (S' := (S.1, sA S.2 a (va_cpy (vA S.2 a0) (vA S.2 a) sp.toNatClampNeg dp.toNatClampNeg n.toNatClampNeg))) (locs := locs) k1 ha.1 hq1 rfl (zE_sA ha.2 (Or.inr (Or.inl rfl))) F.2.2.2.2.2.2.2.1 F.2.2.2.2.2.2.2.2.2.2.2 hP hD1 hS) hS k3
theorem z_ldcw (F : zFx Γ κ M R) {index : Nat} {v : Int32} (hd : decode (mb M) pc = .ok (.ldc_w index, 3)) (hc : Cond.constant (mo M) index v ∈ tz) (k : zX Γ κ S cs sl Q (pc + 3) lv (.int v :: st)) : zX Γ κ S cs sl Q pc lv st := fun H locs ls a b c => lv_ldcw F.1 F.2.1 F.2.2.2.1 (F.2.2.2.2.1 _ (List.mem_cons_of_mem _ hc)) hd (k H locs ls a b c)
end JDKR
/-- what a method that changes the Whole o to x leaves, at its cells -/
def rW (Z : Hz) (V : Hv) (o g x : Nat) : Hs → Prop := fun S' => ∃ V', S' = (Z, V') ∧ oW V V' o g ∧ vv V' o g x
theorem rW.q {Z : Hz} {V : Hv} {val : Nat → Nat} {o g x : Nat} {S' : Hs} (h : rW Z V o g x S') (hC : CV Z V val) (hJ : wInj Z) (ho : wh Z o g) : qW Z V val o x S' := by
  obtain ⟨V', e, hw, hv⟩ := h
  exact ⟨V', e, hC.up hJ ho hw hv⟩
/-- order, as an int -/
def cmpI (x y : Nat) : Int32 := if x < y then -1 else if x = y then 0 else 1
