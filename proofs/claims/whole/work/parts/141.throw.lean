/-! ===== methods that throw, in the pool ===== -/
def zEn : List String := ["java/lang/RuntimeException", "java/lang/Exception"]
def zEx : List String := ["java/lang/ArithmeticException", "java/lang/IndexOutOfBoundsException"]
def zDe : List MethodName := [Bundle.initS "java/lang/RuntimeException", Bundle.initS "java/lang/Exception", Bundle.initS Bundle.tN]
def zTx : List (Nat × String) := [(112, "the divisor is 0"), (143, "no such number"), (146, "no such part"), (148, "no such limb")]
/-- what a throw wants of the world -/
def zThr (Γ : Gm) (U : State) : Prop := (gl Γ).stackTraces = false ∧ vx_Zq Bundle.tN "UNASSIGNED_STACK" Bundle.steD (zA0 Γ) U (gH Γ) ∧ vx_Zq Bundle.tN "SUPPRESSED_SENTINEL" Bundle.listD (zA0 Γ) U (gH Γ) ∧ (∀ q ∈ zTx, ∃ sa : Nat, vk_R "FractionRows" q.1 q.2 sa U) ∧ (∀ y ∈ zDe, va_Nw (.declares y) U) ∧ ∀ C ∈ zEx, va_Nw (.castable C C) U
theorem zThr.warm {Γ : Gm} {u U : State} (hW : u.WarmedH U.vm) (h : zThr Γ u) : zThr Γ U := by
  obtain ⟨h1, h2, h3, h4, h5, h6⟩ := h
  exact ⟨h1, vx_Zq.moved hW.alike h2, vx_Zq.moved hW.alike h3, fun q hq => by obtain ⟨sa, hs⟩ := h4 q hq; exact ⟨sa, vk_R.warm hW hs⟩, fun y hy => va_Nw.warmD hW (h5 y hy), fun C hC => va_Nw.warmC hW (h6 C hC)⟩
theorem zThr.calling {Γ : Gm} {U : State} {g : JFrame} {mk : MethodId} {a : Array Value} (h : zThr Γ U) : zThr Γ (U.calling g mk a) := by
  obtain ⟨h1, h2, h3, h4, h5, h6⟩ := h
  have hv : U.vm.Alike (U.calling g mk a).vm := Vm.Alike.refl U.vm
  exact ⟨h1, vx_Zq.moved hv h2, vx_Zq.moved hv h3, fun q hq => by obtain ⟨sa, hs⟩ := h4 q hq; exact ⟨sa, vk_R.same rfl hs⟩, fun y hy => va_Nw.same rfl rfl (h5 y hy), fun C hC => va_Nw.same rfl rfl (h6 C hC)⟩
theorem zHp.grow {Γ : Gm} {S : Hs} {H H1 : Heap} (h : zHp Γ S H) (hz : H.size ≤ H1.size) (hq : ∀ q : Nat, q < H.size → H1[q]? = H[q]?) : zHp Γ S H1 := by
  obtain ⟨h1, h2, h3, h4⟩ := h
  exact ⟨h1.kept (fun k q hk => hq q.1 (vx_lt h1 hk)), h2, Nat.le_trans h3 hz, fun q hq1 => by rw [hq q (Nat.lt_of_lt_of_le hq1 h3)]; exact h4 q hq1⟩
def zPreX (Γ : Gm) (av : List Value) (S : Hs) : Array Value → State → Prop := va_Pc av (fun U => zTab Γ U ∧ zHp Γ S U.heap ∧ zThr Γ U)
theorem zPreX_blind {Γ : Gm} {av : List Value} {S : Hs} : FrameBlind (zPreX Γ av S) := fun _ _ _ _ h => ⟨h.1, h.2.1.calling, h.2.2.1, h.2.2.2.calling⟩
def zXC (Γ : Gm) (E0 : String) (PX : Hs → Prop) : String → State → State → Prop := fun E st t => E = E0 ∧ (∃ S' : Hs, PX S' ∧ zHp Γ S' t.heap) ∧ st.heap.size ≤ t.heap.size
def zQx (Γ : Gm) (κ : Cx) (Post : Option Value → Hs → Prop) (E0 : String) (PX : Hs → Prop) (mc ms : Nat) : State → Prop := vx_MQ (kbelow κ) (zPost Γ Post) (zXC Γ E0 PX) (kargs κ) (ks κ) mc ms (zA0 Γ)
/-- a method that returns or throws an E0 -/
def zCtX (Γ : Gm) (M : Mm) (fr lo mc ms : Nat) (av : List Value) (S : Hs) (Post : Option Value → Hs → Prop) (E0 : String) (PX : Hs → Prop) : Prop :=
  vx_Met (gl Γ) (my M) (mw M) { frames := fr, cells := mc, slots := ms, locals := lo } (zPreX Γ av S) (zPost Γ Post) (zXC Γ E0 PX) mc ms (zA0 Γ)
theorem zCtX.of {Γ : Gm} {M : Mm} {fr lo mc ms : Nat} {av : List Value} {S : Hs} {Post : Option Value → Hs → Prop} {E0 : String} {PX : Hs → Prop} (lv : Lv) (hy : plainName (my M).cls = true) (ho : (my M).cls = mo M) (hn : (zav av).length ≤ ml M) (hl : zav av ++ List.replicate (ml M - (zav av).length) none = lv)
    (body : ∀ κ : Cx, zFx Γ κ M { frames := fr, cells := mc, slots := ms, locals := lo } → zThr Γ (ks κ) → (∀ x ∈ (kc κ).exceptionTable.toList, False) → zX Γ κ S 0 0 (zQx Γ κ Post E0 PX mc ms) 0 lv []) : zCtX Γ M fr lo mc ms av S Post E0 PX := by
  refine vx_ofW (cc := mb M) (maxL := ml M) (ret := mr M) hy rfl ?_
  intro p e s m args below meth c s₁ B hml hx hv
  obtain ⟨rfl, hT, hH, hR⟩ := hv
  have hts := atoms_spec (ws := mw M) B.pre
  have hown : s.vm.findClass (my M).cls = some m.cls := findClass_of_methodNamed B.named
  have hnm : meth.name = (my M).name := (name_of_methodNamed B.named B.method).1
  rw [ho] at hown
  rw [lg_entry_eq]
  exact body (p, e, _, s, m, av.toArray, below, meth, c) ⟨B.exec, B.bytes, hml, hown, hts, B.returns, B.notSynchronized, hH.2.2.1, hnm, rfl, hT, hH.2.2.2⟩ hR hx s.heap [] _ hH va_S.rf (zLv_entry hn hl)
section THROW
variable {Γ : Gm} {κ : Cx} {S : Hs} {cs sl pc : Nat} {Q : State → Prop} {lv : Lv} {st : List Value} {M M' : Mm} {R : Room} {Post : Option Value → Hs → Prop} {E0 : String} {PX : Hs → Prop} {mc ms : Nat}
theorem zX_ret (h : zX Γ κ S cs sl (zQ Γ κ Post mc ms) pc lv st) : zX Γ κ S cs sl (zQx Γ κ Post E0 PX mc ms) pc lv st := fun H locs ls h1 h2 h3 => vx_ret (h H locs ls h1 h2 h3)
theorem zX_widen {cs' sl' : Nat} (h1 : cs ≤ cs') (h2 : sl ≤ sl') (h : zX Γ κ S cs' sl' Q pc lv st) : zX Γ κ S cs sl Q pc lv st := fun H locs ls a b c T hT X => h H locs ls a b c T hT (stand_widen X h1 h2)
/-- 'throw new E0("text")' -/
theorem z_throw (F : zFx Γ κ M R) (T : zThr Γ (ks κ)) (hx0 : ∀ x ∈ (kc κ).exceptionTable.toList, False) {text : String} {ik is ic : Nat} (hmo : mo M = "FractionRows") (hE : E0 ∈ zEx) (htx : (is, text) ∈ zTx) (hk : Cond.classLink (mo M) ik E0 ∈ tz) (hini : Cond.initialized E0 ∈ tz)
    (hfit : Bundle.fit E0 = true) (hat : ∀ w ∈ vx_atS (mo M) ic E0 zEn, w ∈ tz ∨ (∃ y ∈ zDe, w = .declares y) ∨ w = .castable E0 E0)
    (d0 : decode (mb M) pc = .ok (.new ik, 3)) (d3 : decode (mb M) (pc + 3) = .ok (.dup, 1)) (d4 : decode (mb M) (pc + 4) = .ok (.ldc is, 2)) (d6 : decode (mb M) (pc + 6) = .ok (.invokespecial ic, 3)) (d9 : decode (mb M) (pc + 9) = .ok (.athrow, 1))
    (hlen : lv.length = ml M) (hR : 5 < R.frames ∧ 82 ≤ R.locals) (hRc : cs + 1 ≤ R.cells ∧ sl + 6 ≤ R.slots) (hc : cs + 1 ≤ mc) (hs : sl + 6 ≤ ms) (hp : PX S) : zX Γ κ S cs sl (zQx Γ κ Post E0 PX mc ms) pc lv [] := by
  intro H locs ls h1 h2 h3
  have hRk : kR κ = R := F.2.2.2.2.2.2.2.2.2.1
  have hts := F.2.2.2.2.1
  obtain ⟨t1, t2, t3, t4, t5, t6⟩ := T
  obtain ⟨sa, hsa⟩ := t4 _ htx
  have h00 := F.2.2.2.2.2.2.2.2.2.2.2
  refine vx_throwS (own := mo M) (cls := E0) (text := text) (names := zEn) (ik := ik) (is := is) (ic := ic) (sa := sa) (A := zA0 Γ) F.1 F.2.1 t1 F.2.2.2.1 hfit (by decide +kernel) (hts _ (List.mem_cons_of_mem _ hk)) (hts _ (List.mem_cons_of_mem _ hini)) (by rw [hmo]; exact hsa) ?_ ?_ ?_ ?_ h2 ?_ d0 d3 d4 d6 d9 ?_ ?_ ?_ ?_ ?_ F.2.2.2.2.2.2.1 ?_ h2.2.2 hc hs
  · intro w hw
    rcases hat w hw with h | ⟨y, hy, rfl⟩ | rfl
    · exact hts _ (List.mem_cons_of_mem _ h)
    · exact va_Nw.use rfl (t5 y hy)
    · exact va_Nw.use rfl (t6 _ hE)
  · intro w hw
    have good : ∀ w, w ∈ tz → vx_ot w = true := fun w h => by
      have := (List.mem_filter.mp h).2
      unfold vx_ot
      rw [this, Bool.or_true]
    rcases List.mem_cons.mp hw with rfl | hw
    · exact good _ hk
    rcases List.mem_cons.mp hw with rfl | hw
    · exact good _ hini
    rcases hat w hw with h | ⟨y, hy, rfl⟩ | rfl
    · exact good _ h
    · rfl
    · rfl
  · exact t2.kept (fun q hq hA => h00 q hq)
  · exact t3.kept (fun q hq hA => h00 q hq)
  · rw [F.2.2.1]; exact h3.1.trans hlen
  · exact fun x hx => (hx0 x hx).elim
  · rw [hRk]; exact hR.1
  · rw [hRk]; exact hR.2
  · rw [hRk]; exact hRc.1
  · rw [hRk]; exact hRc.2
  · intro t _ hz hq
    exact ⟨rfl, ⟨S, hp, h1.grow hz hq⟩, Nat.le_trans h2.1 hz⟩
end THROW
theorem at_114 : ∀ w ∈ vx_atS "FractionRows" 114 "java/lang/ArithmeticException" zEn, w ∈ tz ∨ (∃ y ∈ zDe, w = .declares y) ∨ w = .castable "java/lang/ArithmeticException" "java/lang/ArithmeticException" := by
  have h : (vx_atS "FractionRows" 114 "java/lang/ArithmeticException" zEn).all (fun w => (decide (w ∈ lw_tbl) && goodWord w) || (zDe.any (fun y => decide (w = .declares y)) || decide (w = .castable "java/lang/ArithmeticException" "java/lang/ArithmeticException"))) = true := by decide +kernel
  intro w hw
  have := List.all_eq_true.mp h w hw
  simp only [Bool.or_eq_true, Bool.and_eq_true, decide_eq_true_eq, List.any_eq_true] at this
  rcases this with ⟨a, b⟩ | h | h
  · exact Or.inl (List.mem_filter.mpr ⟨a, b⟩)
  · exact Or.inr (Or.inl h)
  · exact Or.inr (Or.inr h)
theorem at_145 : ∀ w ∈ vx_atS "FractionRows" 145 "java/lang/IndexOutOfBoundsException" zEn, w ∈ tz ∨ (∃ y ∈ zDe, w = .declares y) ∨ w = .castable "java/lang/IndexOutOfBoundsException" "java/lang/IndexOutOfBoundsException" := by
  have h : (vx_atS "FractionRows" 145 "java/lang/IndexOutOfBoundsException" zEn).all (fun w => (decide (w ∈ lw_tbl) && goodWord w) || (zDe.any (fun y => decide (w = .declares y)) || decide (w = .castable "java/lang/IndexOutOfBoundsException" "java/lang/IndexOutOfBoundsException"))) = true := by decide +kernel
  intro w hw
  have := List.all_eq_true.mp h w hw
  simp only [Bool.or_eq_true, Bool.and_eq_true, decide_eq_true_eq, List.any_eq_true] at this
  rcases this with ⟨a, b⟩ | h | h
  · exact Or.inl (List.mem_filter.mpr ⟨a, b⟩)
  · exact Or.inr (Or.inl h)
  · exact Or.inr (Or.inr h)
theorem tz_dec {w : Cond} (h : (decide (w ∈ lw_tbl) && goodWord w) = true) : w ∈ tz := by
  simp only [Bool.and_eq_true, decide_eq_true_eq] at h
  exact List.mem_filter.mpr h
theorem cl_110 : Cond.classLink "FractionRows" 110 "java/lang/ArithmeticException" ∈ tz := tz_dec (by decide +kernel)
theorem cl_141 : Cond.classLink "FractionRows" 141 "java/lang/IndexOutOfBoundsException" ∈ tz := tz_dec (by decide +kernel)
theorem in_ae : Cond.initialized "java/lang/ArithmeticException" ∈ tz := tz_dec (by decide +kernel)
theorem in_ie : Cond.initialized "java/lang/IndexOutOfBoundsException" ∈ tz := tz_dec (by decide +kernel)
