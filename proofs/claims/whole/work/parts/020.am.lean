/-! ===== the machine seen from a pool of cells: heap, context, judgement ===== -/
/-- the shape: the pool's addresses, the kind of each, what its fields of references hold, how long an array is, what an array of references holds -/
abbrev Hz : Type := List Nat × (Nat → Nat) × (Nat → Nat → Nat → Option Nat) × (Nat → Nat) × (Nat → Nat → Option Nat)
/-- what moves: fields of ints (kind, number, address), arrays of ints, arrays of longs -/
abbrev Hv : Type := (Nat → Nat → Nat → Int32) × (Nat → Nat → Int32) × (Nat → Nat → Int64)
abbrev Hs : Type := Hz × Hv
abbrev zL (Z : Hz) : List Nat := Z.1
abbrev zK (Z : Hz) : Nat → Nat := Z.2.1
abbrev zR (Z : Hz) : Nat → Nat → Nat → Option Nat := Z.2.2.1
abbrev zn (Z : Hz) : Nat → Nat := Z.2.2.2.1
abbrev zA (Z : Hz) : Nat → Nat → Option Nat := Z.2.2.2.2
abbrev vI (V : Hv) : Nat → Nat → Nat → Int32 := V.1
abbrev vA (V : Hv) : Nat → Nat → Int32 := V.2.1
abbrev vJ (V : Hv) : Nat → Nat → Int64 := V.2.2
def sI (V : Hv) (ci k a : Nat) (x : Int32) : Hv := (fun c j b => if c = ci ∧ j = k ∧ b = a then x else V.1 c j b, V.2)
def sA (V : Hv) (a : Nat) (f : Nat → Int32) : Hv := (V.1, va_up V.2.1 a f, V.2.2)
def sJ (V : Hv) (a : Nat) (f : Nat → Int64) : Hv := (V.1, V.2.1, va_up V.2.2 a f)
def zN (ci : Nat) : Nat := match vwCl[ci]? with
  | some q => q.2.2
  | none => 0
def zD (ci k : Nat) : String := match vwCl[ci]? with
  | some q => (q.2.1 k).2.2.1
  | none => ""
def zIs (ci k : Nat) : Bool := zD ci k == "I" || zD ci k == "Z"
def zFv (Z : Hz) (V : Hv) (ci a k : Nat) : Value := if zIs ci k = true then .int (vI V ci k a) else va_rf (zR Z ci k a)
def zE (cy : Nat → ClassId) (Z : Hz) (V : Hv) (a : Nat) : va_E :=
  if zK Z a < 10 then .inr (zK Z a, (List.range (zN (zK Z a))).map (zFv Z V (zK Z a) a))
  else if zK Z a = 13 then .inl (cy 13, zn Z a, .inr (.inr (.inr (.inr (zA Z a)))))
  else if zK Z a = 14 then .inl (cy 14, zn Z a, .inr (.inl (vJ V a)))
  else .inl (cy (zK Z a), zn Z a, .inl (vA V a))
/-- launch, the tables' numbers, the heap before the law began, the classes of arrays by kind -/
abbrev Gm : Type := Launch × va_G × Heap × (Nat → ClassId)
abbrev gl (Γ : Gm) : Launch := Γ.1
abbrev gD (Γ : Gm) : va_G := Γ.2.1
abbrev gH (Γ : Gm) : Heap := Γ.2.2.1
abbrev gc (Γ : Gm) : Nat → ClassId := Γ.2.2.2
def zA0 (Γ : Gm) : Nat → Prop := fun q => (gH Γ).size ≤ q
def zTys (cy : Nat → ClassId) : List (ClassId × FieldType) := [(cy 10, .byte), (cy 11, .int), (cy 12, .boolean), (cy 13, .object "FractionRows$Fraction"), (cy 14, .long)]
abbrev zW (Γ : Gm) (S : Hs) : va_W := va_pl (zL S.1) (zE (gc Γ) S.1 S.2)
def zHp (Γ : Gm) (S : Hs) (H : Heap) : Prop := va_P (gD Γ) vwCl (zW Γ S) H ∧ va_D (zA0 Γ) (zW Γ S) ∧ (gH Γ).size ≤ H.size ∧ ∀ q : Nat, q < (gH Γ).size → H[q]? = (gH Γ)[q]?
/-- nest words: fields and methods of nest mates -/
def zNF : List (String × Nat × String × String × String × String) := [("FractionRows", 184, "FractionRows$Solved", "rank", "I", "FractionRows"), ("FractionRows", 187, "FractionRows$Solved", "there", "Z", "FractionRows"), ("FractionRows", 190, "FractionRows$Solved", "hasAnswers", "Z", "FractionRows"), ("FractionRows", 196, "FractionRows$Solved", "unknowns", "[LFractionRows$Fraction;", "FractionRows"), ("FractionRows", 199, "FractionRows$Solved", "columns", "[I", "FractionRows"), ("FractionRows", 202, "FractionRows$Solved", "rows", "[I", "FractionRows"), ("FractionRows", 205, "FractionRows$Solved", "sizes", "[I", "FractionRows"), ("FractionRows", 212, "FractionRows$Solved", "sum", "LFractionRows$Fraction;", "FractionRows"), ("FractionRows", 243, "FractionRows$Joint", "primes", "I", "FractionRows"), ("FractionRows", 246, "FractionRows$Joint", "number", "LFractionRows$Whole;", "FractionRows"), ("FractionRows", 249, "FractionRows$Joint", "modulus", "LFractionRows$Whole;", "FractionRows"), ("FractionRows", 265, "FractionRows$Text", "length", "I", "FractionRows"), ("FractionRows", 266, "FractionRows$Text", "backwards", "[B", "FractionRows"), ("FractionRows$Determinants", 31, "FractionRows$Elimination", "rank", "I", "FractionRows"), ("FractionRows$Determinants", 50, "FractionRows$Elimination", "odd", "Z", "FractionRows"), ("FractionRows$Solved", 49, "FractionRows$Elimination", "rank", "I", "FractionRows"), ("FractionRows$Solved", 55, "FractionRows$Elimination", "columnOf", "[I", "FractionRows"), ("FractionRows$Solved", 58, "FractionRows$Elimination", "rowAt", "[I", "FractionRows")]
def zNM : List (String × Nat × MethodName × String) := [("FractionRows", 20, ⟨"FractionRows$Arithmetic", "<init>", "()V"⟩, "FractionRows"), ("FractionRows$Arithmetic", 9, ⟨"FractionRows$Whole", "<init>", "()V"⟩, "FractionRows"), ("FractionRows$Fraction", 9, ⟨"FractionRows$Whole", "<init>", "()V"⟩, "FractionRows"), ("FractionRows$Joint", 9, ⟨"FractionRows$Whole", "<init>", "()V"⟩, "FractionRows"), ("FractionRows$Text", 9, ⟨"FractionRows$Whole", "<init>", "()V"⟩, "FractionRows")]
def zWit (Γ : Gm) (U : State) : Prop := ∃ t : Nat, va_Z "FractionRows$Primes" "WITNESSES" "[I" (.ref t) (zA0 Γ) U (gH Γ) ∧ va_T .int t 4 (fun j => .int (if j = 0 then 2 else if j = 1 then 3 else if j = 2 then 5 else 7)) (zA0 Γ) U (gH Γ)
def zTab (Γ : Gm) (U : State) : Prop := va_K (gD Γ) vwCl (zTys (gc Γ)) U ∧ (∀ q ∈ zNF, va_Nw (.fieldLinkNest q.1 q.2.1 q.2.2.1 q.2.2.2.1 q.2.2.2.2.1 q.2.2.2.2.2) U) ∧ (∀ q ∈ zNM, va_Nw (.methodLinkNest q.1 q.2.1 q.2.2.1 q.2.2.2) U) ∧ va_AO "FractionRows$Fraction" U ∧ zWit Γ U
theorem zTab.warm {Γ : Gm} {u U : State} (hW : u.WarmedH U.vm) (h : zTab Γ u) : zTab Γ U := by
  obtain ⟨h1, h2, h3, h4, t, h5, h6⟩ := h
  exact ⟨va_K.moved hW.alike h1, fun q hq => va_Nw.warmF hW (h2 q hq), fun q hq => va_Nw.warmM hW (h3 q hq), va_AO.moved hW.alike h4, t, h5.moved hW.alike, h6.moved hW.alike⟩
theorem zTab.calling {Γ : Gm} {U : State} {g : JFrame} {mk : MethodId} {a : Array Value} (h : zTab Γ U) : zTab Γ (U.calling g mk a) := by
  obtain ⟨h1, h2, h3, h4, t, h5, h6⟩ := h
  have hv : U.vm.Alike (U.calling g mk a).vm := Vm.Alike.refl U.vm
  exact ⟨va_K.moved hv h1, fun q hq => va_Nw.same rfl rfl (h2 q hq), fun q hq => va_Nw.same rfl rfl (h3 q hq), va_AO.moved hv h4, t, h5.moved hv, h6.moved hv⟩
/-- the context of a walk: program, environment, room, the state at the method's entry, the method, arguments, frames below, method, code -/
abbrev Cx : Type := Program × Env × Room × State × MethodId × Array Value × List Frame × Method × Code
abbrev kp (κ : Cx) : Program := κ.1
abbrev ke (κ : Cx) : Env := κ.2.1
abbrev kR (κ : Cx) : Room := κ.2.2.1
abbrev ks (κ : Cx) : State := κ.2.2.2.1
abbrev km (κ : Cx) : MethodId := κ.2.2.2.2.1
abbrev kargs (κ : Cx) : Array Value := κ.2.2.2.2.2.1
abbrev kbelow (κ : Cx) : List Frame := κ.2.2.2.2.2.2.1
abbrev kmeth (κ : Cx) : Method := κ.2.2.2.2.2.2.2.1
abbrev kc (κ : Cx) : Code := κ.2.2.2.2.2.2.2.2
abbrev zWk (Γ : Gm) (κ : Cx) (H : Heap) (locs : List Loc) (cs sl : Nat) (Q : State → Prop) (g : JFrame) : Prop := W (kp κ) (gl Γ) (ke κ) (kR κ) (ks κ) (km κ) (kargs κ) (kbelow κ) (kmeth κ) (kc κ) H locs cs sl Q g
/-- locals by their places -/
abbrev Lv : Type := List (Option Value)
def zLv (ls : Array Slot) (lv : Lv) : Prop := ls.size = lv.length ∧ lv_wf ls ∧ ∀ (i : Nat) (v : Value), lv[i]? = some (some v) → ls[i]? = some (.val v)
def zX (Γ : Gm) (κ : Cx) (S : Hs) (cs sl : Nat) (Q : State → Prop) (pc : Nat) (lv : Lv) (st : List Value) : Prop :=
  ∀ (H : Heap) (locs : List Loc) (ls : Array Slot), zHp Γ S H → va_S (zA0 Γ) (ks κ).heap H locs → zLv ls lv → zWk Γ κ H locs cs sl Q (F0 (km κ) pc ls st)
/-- a method: name, code, locals, what it returns, its class -/
abbrev Mm : Type := MethodName × ByteArray × Nat × Option FieldType × String
abbrev my (M : Mm) : MethodName := M.1
abbrev mb (M : Mm) : ByteArray := M.2.1
abbrev ml (M : Mm) : Nat := M.2.2.1
abbrev mr (M : Mm) : Option FieldType := M.2.2.2.1
abbrev mo (M : Mm) : String := M.2.2.2.2
/-- its words: its own code, and the tables' -/
abbrev mw (M : Mm) : List Cond := Cond.code (my M) (mb M) (ml M) (mr M) :: tz
/-- what stays through a method's walk -/
def zFx (Γ : Gm) (κ : Cx) (M : Mm) (R : Room) : Prop :=
  (kp κ).tables.exec = Jvm.exec ∧ (kc κ).code = mb M ∧ (kc κ).maxLocals = ml M ∧ (ks κ).vm.findClass (mo M) = some (km κ).cls ∧ (∀ w ∈ mw M, w.before (kargs κ) (ks κ) = true) ∧ (kmeth κ).sig.returnType = mr M ∧ (kmeth κ).locks = false ∧ (gH Γ).size ≤ (ks κ).heap.size ∧ (kmeth κ).name = (my M).name ∧ kR κ = R ∧ zTab Γ (ks κ) ∧ (∀ q : Nat, q < (gH Γ).size → (ks κ).heap[q]? = (gH Γ)[q]?)
/-! ===== locals ===== -/
theorem zLv.at {ls : Array Slot} {lv : Lv} (h : zLv ls lv) {i : Nat} {v : Value} (hi : lv[i]? = some (some v)) : ls[i]? = some (.val v) := h.2.2 i v hi
/-- the listed values of locals -/
def zls (lv : Lv) : List (Nat × Value) := (List.range lv.length).filterMap (fun i => (lv[i]?.join).map (fun v => (i, v)))
theorem zls_mem {lv : Lv} {i : Nat} {v : Value} : (i, v) ∈ zls lv ↔ lv[i]? = some (some v) := by
  unfold zls
  rw [List.mem_filterMap]
  constructor
  · rintro ⟨j, -, hj⟩
    cases h : lv[j]? with
    | none => rw [h] at hj; simp at hj
    | some o =>
      cases o with
      | none => rw [h] at hj; simp at hj
      | some w =>
        rw [h] at hj
        simp at hj
        obtain ⟨rfl, rfl⟩ := hj
        exact h
  · intro h
    exact ⟨i, List.mem_range.mpr (List.getElem?_eq_some_iff.mp h).1, by rw [h]; rfl⟩
theorem zLv.has {ls : Array Slot} {lv : Lv} (h : zLv ls lv) : lv_has ls lv.length (zls lv) := ⟨h.1, h.2.1, fun q hq => h.2.2 q.1 q.2 (zls_mem.mp hq)⟩
theorem zLv.to {ls : Array Slot} {lv lv' : Lv} {l : List (Nat × Value)} (h : lv_has ls lv.length l) (hl : lv'.length = lv.length) (hm : ∀ (i : Nat) (v : Value), lv'[i]? = some (some v) → (i, v) ∈ l) : zLv ls lv' := ⟨h.1.trans hl.symm, h.2.1, fun i v hv => h.2.2 (i, v) (hm i v hv)⟩
/-- not a value of two slots -/
def zc1 : Option Value → Bool
  | some (.long _) => false
  | some (.double _) => false
  | _ => true
theorem zc1_cat {v : Value} (h : zc1 (some v) = true) : v.category = 1 := by cases v <;> first | rfl | simp [zc1] at h
/-- behind a store of one slot at place 'pre.length' -/
theorem zLv_s1 {ls : Array Slot} {pre : Lv} {o : Option Value} {suf : Lv} {i : Nat} {v : Value} (hp : pre.length = i) (hc : ∀ (w : Value), pre[i - 1]? = some (some w) → 0 < i → w.category = 1)
    (h : lv_has ls (pre ++ o :: suf).length ((i, v) :: (zls (pre ++ o :: suf)).filter (fun q => !(q.1 == i) && !(q.1 + 1 == i && q.2.category == 2)))) : zLv ls (pre ++ some v :: suf) := by
  subst hp
  refine zLv.to (lv := pre ++ o :: suf) h (by simp) (fun j w hj => ?_)
  by_cases hji : j = pre.length
  · subst hji
    rw [List.getElem?_append_right (Nat.le_refl _), Nat.sub_self] at hj
    simp at hj
    subst hj
    exact List.mem_cons_self
  · refine List.mem_cons_of_mem _ (List.mem_filter.mpr ⟨zls_mem.mpr ?_, ?_⟩)
    · rcases Nat.lt_or_ge j pre.length with hlt | hge
      · rw [List.getElem?_append_left hlt] at hj ⊢
        exact hj
      · rw [List.getElem?_append_right hge] at hj ⊢
        obtain ⟨d, hd⟩ : ∃ d, j - pre.length = d + 1 := ⟨j - pre.length - 1, by omega⟩
        rw [hd, List.getElem?_cons_succ] at hj ⊢
        exact hj
    · simp only [Bool.and_eq_true, Bool.not_eq_true', beq_eq_false_iff_ne, ne_eq, hji, not_false_eq_true, true_and, Bool.and_eq_false_iff]
      by_cases hj1 : j + 1 = pre.length
      · right
        have hlt : j < pre.length := by omega
        rw [List.getElem?_append_left hlt] at hj
        have := hc w (by rw [show pre.length - 1 = j by omega]; exact hj) (by omega)
        rw [this]
        decide
      · left
        simpa using hj1
theorem zLv_s2 {ls : Array Slot} {pre : Lv} {o o2 : Option Value} {suf : Lv} {i : Nat} {v : Value} (hp : pre.length = i) (hc : ∀ (w : Value), pre[i - 1]? = some (some w) → 0 < i → w.category = 1)
    (h : lv_has ls (pre ++ o :: o2 :: suf).length ((i, v) :: (zls (pre ++ o :: o2 :: suf)).filter (fun q => !(q.1 == i) && (!(q.1 == i + 1) && !(q.1 + 1 == i && q.2.category == 2))))) : zLv ls (pre ++ some v :: none :: suf) := by
  subst hp
  refine zLv.to (lv := pre ++ o :: o2 :: suf) h (by simp) (fun j w hj => ?_)
  by_cases hji : j = pre.length
  · subst hji
    rw [List.getElem?_append_right (Nat.le_refl _), Nat.sub_self] at hj
    simp at hj
    subst hj
    exact List.mem_cons_self
  · by_cases hj2 : j = pre.length + 1
    · subst hj2
      rw [List.getElem?_append_right (by omega), show pre.length + 1 - pre.length = 0 + 1 by omega, List.getElem?_cons_succ] at hj
      simp at hj
    refine List.mem_cons_of_mem _ (List.mem_filter.mpr ⟨zls_mem.mpr ?_, ?_⟩)
    · rcases Nat.lt_or_ge j pre.length with hlt | hge
      · rw [List.getElem?_append_left hlt] at hj ⊢
        exact hj
      · rw [List.getElem?_append_right hge] at hj ⊢
        obtain ⟨d, hd⟩ : ∃ d, j - pre.length = d + 1 + 1 := ⟨j - pre.length - 2, by omega⟩
        rw [hd, List.getElem?_cons_succ, List.getElem?_cons_succ] at hj ⊢
        exact hj
    · simp only [Bool.and_eq_true, Bool.not_eq_true', beq_eq_false_iff_ne, ne_eq, hji, hj2, not_false_eq_true, true_and, Bool.and_eq_false_iff]
      by_cases hj1 : j + 1 = pre.length
      · right
        have hlt : j < pre.length := by omega
        rw [List.getElem?_append_left hlt] at hj
        have := hc w (by rw [show pre.length - 1 = j by omega]; exact hj) (by omega)
        rw [this]
        decide
      · left
        simpa using hj1
theorem zLv.forget {ls : Array Slot} {pre suf : Lv} {o : Option Value} (h : zLv ls (pre ++ o :: suf)) : zLv ls (pre ++ none :: suf) := by
  refine ⟨by rw [h.1]; simp, h.2.1, fun i v hi => h.2.2 i v ?_⟩
  rcases Nat.lt_or_ge i pre.length with hlt | hge
  · rw [List.getElem?_append_left hlt] at hi ⊢
    exact hi
  · rw [List.getElem?_append_right hge] at hi ⊢
    cases hd : i - pre.length with
    | zero => rw [hd] at hi; simp at hi
    | succ d => rw [hd, List.getElem?_cons_succ] at hi; rw [List.getElem?_cons_succ]; exact hi
