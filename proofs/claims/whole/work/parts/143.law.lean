/-! ===== methods with a table of handlers; a call that is caught ===== -/
def zFy (Γ : Gm) (κ : Cx) (M : Mm) (R : Room) : Prop :=
  (kp κ).tables.exec = Jvm.exec ∧ (kc κ).code = mb M ∧ (kc κ).maxLocals = ml M ∧ (ks κ).vm.findClass (mo M) = some (km κ).cls ∧ (∀ w ∈ tz, w.before (kargs κ) (ks κ) = true) ∧ (kmeth κ).sig.returnType = mr M ∧ (kmeth κ).locks = false ∧ (gH Γ).size ≤ (ks κ).heap.size ∧ (kmeth κ).name = (my M).name ∧ kR κ = R ∧ zTab Γ (ks κ) ∧ (∀ q : Nat, q < (gH Γ).size → (ks κ).heap[q]? = (gH Γ)[q]?)
section ZY
variable {Γ : Gm} {κ : Cx} {S : Hs} {cs sl pc : Nat} {Q : State → Prop} {lv : Lv} {st : List Value} {M : Mm} {R : Room} {a : Nat}
theorem zy_iconst (F : zFy Γ κ M R) {n : Int} {v : Int32} (hd : decode (mb M) pc = .ok (.iconst n, 1)) (hv : Int32.ofInt n = v) (k : zX Γ κ S cs sl Q (pc + 1) lv (.int v :: st)) : zX Γ κ S cs sl Q pc lv st := fun H locs ls a b c => lv_iconst (v := v) F.1 F.2.1 hd hv (k H locs ls a b c)
theorem zy_iload_n (F : zFy Γ κ M R) {j : Fin 4} {x : Int32} (hd : decode (mb M) pc = .ok (.iload_n j, 1)) (hl : lv[(j : Nat)]? = some (some (.int x))) (k : zX Γ κ S cs sl Q (pc + 1) lv (.int x :: st)) : zX Γ κ S cs sl Q pc lv st := fun H locs ls a b c => lv_iload_n F.1 F.2.1 hd rfl (c.at hl) (k H locs ls a b c)
theorem zy_aload_n (F : zFy Γ κ M R) {j : Fin 4} {x : Nat} (hd : decode (mb M) pc = .ok (.aload_n j, 1)) (hl : lv[(j : Nat)]? = some (some (.ref x))) (k : zX Γ κ S cs sl Q (pc + 1) lv (.ref x :: st)) : zX Γ κ S cs sl Q pc lv st := fun H locs ls a b c => lv_aload_n F.1 F.2.1 hd rfl (c.at hl) (k H locs ls a b c)
theorem zy_aload (F : zFy Γ κ M R) {i : Nat} {x : Nat} (hd : decode (mb M) pc = .ok (.aload i, 2)) (hl : lv[i]? = some (some (.ref x))) (k : zX Γ κ S cs sl Q (pc + 2) lv (.ref x :: st)) : zX Γ κ S cs sl Q pc lv st := fun H locs ls a b c => lv_aload F.1 F.2.1 hd (c.at hl) (k H locs ls a b c)
theorem zy_astore_4 (F : zFy Γ κ M R) {a0 a1 a2 a3 o : Option Value} {suf : Lv} {x : Nat} (hd : decode (mb M) pc = .ok (.astore 4, 2)) (hc : zc1 a3 = true) (k : zX Γ κ S cs sl Q (pc + 2) (a0 :: a1 :: a2 :: a3 :: some (.ref x) :: suf) st) : zX Γ κ S cs sl Q pc (a0 :: a1 :: a2 :: a3 :: o :: suf) (.ref x :: st) := fun H locs ls a b c => lv_astore (lv := zls ([a0, a1, a2, a3] ++ o :: suf)) (nL := ([a0, a1, a2, a3] ++ o :: suf).length) F.1 F.2.1 hd c.has (by simp <;> omega) rfl (fun ls' h' => k H locs ls' a b (zLv_s1 (pre := [a0, a1, a2, a3]) (o := o) rfl (fun w hw h0 => by simp at hw; subst hw; exact zc1_cat hc) h'))
theorem zy_astore_5 (F : zFy Γ κ M R) {a0 a1 a2 a3 a4 o : Option Value} {suf : Lv} {x : Nat} (hd : decode (mb M) pc = .ok (.astore 5, 2)) (hc : zc1 a4 = true) (k : zX Γ κ S cs sl Q (pc + 2) (a0 :: a1 :: a2 :: a3 :: a4 :: some (.ref x) :: suf) st) : zX Γ κ S cs sl Q pc (a0 :: a1 :: a2 :: a3 :: a4 :: o :: suf) (.ref x :: st) := fun H locs ls a b c => lv_astore (lv := zls ([a0, a1, a2, a3, a4] ++ o :: suf)) (nL := ([a0, a1, a2, a3, a4] ++ o :: suf).length) F.1 F.2.1 hd c.has (by simp <;> omega) rfl (fun ls' h' => k H locs ls' a b (zLv_s1 (pre := [a0, a1, a2, a3, a4]) (o := o) rfl (fun w hw h0 => by simp at hw; subst hw; exact zc1_cat hc) h'))
theorem zy_i2l (F : zFy Γ κ M R) {x : Int32} (hd : decode (mb M) pc = .ok (.i2l, 1))  (k : zX Γ κ S cs sl Q (pc + 1) lv (.long x.toInt64 :: st)) : zX Γ κ S cs sl Q pc lv (.int x :: st) := fun H locs ls a b c => lv_i2l F.1 F.2.1 hd rfl (k H locs ls a b c)
theorem zy_goto (F : zFy Γ κ M R) {off : Int} {tgt : Nat} (hd : decode (mb M) pc = .ok (.goto off, 3)) (ht : (pc : Int) + off = (tgt : Int)) (k : zX Γ κ S cs sl Q tgt lv st) : zX Γ κ S cs sl Q pc lv st := fun H locs ls a b c => lv_goto F.1 F.2.1 hd ht (k H locs ls a b c)
theorem zy_last (F : zFy Γ κ M R) {i : Int32} {x : Int64} (hd : decode (mb M) pc = .ok (.lastore, 1)) (ha : zIn S.1 a 14) (hin : vp_in i (zn S.1 a)) (kk : zX Γ κ (S.1, sJ S.2 a (vp_updL (vJ S.2 a) i.toNatClampNeg x)) cs sl Q (pc + 1) lv st) : zX Γ κ S cs sl Q pc lv (.long x :: .int i :: .ref a :: st) := by
  intro H locs ls h1 h2 h3
  obtain ⟨q0, hq⟩ := zW_at (Γ := Γ) (S := S) ha.1
  have hq' := hq
  rw [zE_longs ha.2] at hq'
  refine va_last F.1 F.2.1 F.2.2.2.2.2.2.2.2.2.2.1.1 h1.1 h1.2.1 h2 q0 4 hq' rfl hin hd (fun H1 locs1 hP hD1 hS => ?_)
  exact kk H1 locs1 ls (zHp_put (S' := (S.1, sJ S.2 a (vp_updL (vJ S.2 a) i.toNatClampNeg x))) (locs := locs) h1 ha.1 hq rfl (zE_sJ ha.2) F.2.2.2.2.2.2.2.1 F.2.2.2.2.2.2.2.2.2.2.2 hP hD1 hS) hS h3
end ZY
section ZYR
variable {Γ : Gm} {κ : Cx} {S : Hs} {mc ms pc : Nat} {lv : Lv} {M : Mm} {R : Room}
theorem zy_iret (F : zFy Γ κ M R) {P : Int32 → Hs → Prop} {v : Int32} (hd : decode (mb M) pc = .ok (.ireturn, 1)) (hr : mr M = some .int) (hp : P v S) : zX Γ κ S mc ms (zQ Γ κ (pI P) mc ms) pc lv [.int v] := by
  intro H locs ls h1 h2 h3
  exact W.iret F.1 F.2.1 (F.2.2.2.2.2.1.trans hr) (zret_q (Post := pI P) ⟨v, rfl, hp⟩ h1 h2) h2.2.2 hd F.2.2.2.2.2.2.1
end ZYR
abbrev mwH (M : Mm) (hh : List (Nat × Nat × Nat × Nat)) : List Cond := Cond.codeWith (my M) (mb M) (ml M) (mr M) hh :: tz
/-- the contract of a method with handlers, that returns -/
def zCtH (Γ : Gm) (M : Mm) (hh : List (Nat × Nat × Nat × Nat)) (fr lo mc ms : Nat) (av : List Value) (S : Hs) (Post : Option Value → Hs → Prop) : Prop :=
  Met (gl Γ) (my M) (mwH M hh) { frames := fr, cells := mc, slots := ms, locals := lo } (zPreX Γ av S) (zPost Γ Post) mc ms (zA0 Γ)
theorem zCtH.of {Γ : Gm} {M : Mm} {hh : List (Nat × Nat × Nat × Nat)} {fr lo mc ms : Nat} {av : List Value} {S : Hs} {Post : Option Value → Hs → Prop} (lv : Lv) (hy : plainName (my M).cls = true) (ho : (my M).cls = mo M) (hn : (zav av).length ≤ ml M) (hl : zav av ++ List.replicate (ml M - (zav av).length) none = lv)
    (body : ∀ κ : Cx, zFy Γ κ M { frames := fr, cells := mc, slots := ms, locals := lo } → zThr Γ (ks κ) → (kc κ).exceptionTable.toList = tableOf hh → zX Γ κ S 0 0 (zQ Γ κ Post mc ms) 0 lv []) : zCtH Γ M hh fr lo mc ms av S Post := by
  refine va_MetW (cc := mb M) (maxL := ml M) (ret := mr M) (hh := hh) hy rfl ?_
  intro p e s m args below meth c s₁ B hml hv
  obtain ⟨rfl, hT, hH, hR⟩ := hv
  have hts := atoms_spec (ws := mwH M hh) B.pre
  have hown : s.vm.findClass (my M).cls = some m.cls := findClass_of_methodNamed B.named
  have hnm : meth.name = (my M).name := (name_of_methodNamed B.named B.method).1
  rw [ho] at hown
  rw [lg_entry_eq]
  exact body (p, e, _, s, m, av.toArray, below, meth, c) ⟨B.exec, B.bytes, hml, hown, fun w hw => hts w (List.mem_cons_of_mem _ hw), B.returns, B.notSynchronized, hH.2.2.1, hnm, rfl, hT, hH.2.2.2⟩ hR (vx_table (x := my M) B (hts _ List.mem_cons_self)) s.heap [] _ hH va_S.rf (zLv_entry hn hl)
theorem zGoodT {Ts ws : List Cond} (h : ∀ w ∈ ws, w ∈ tz) (ht : ∀ w ∈ tz, w ∈ Ts) : GoodIn Ts ws := fun w hw => ⟨ht w (h w hw), tz_good (h w hw)⟩
section CATCH
variable {Γ : Gm} {κ : Cx} {S : Hs} {cs sl pc : Nat} {Q : State → Prop} {lv : Lv} {st : List Value} {M M' : Mm} {R : Room} {fr lo mc ms idx n b ci : Nat} {As rest : List Value} {Post : Option Value → Hs → Prop} {E0 : String} {PX : Hs → Prop}
/-- a call that may throw, caught by the only row of the table -/
theorem zy_callX (F : zFy Γ κ M R) (TH : zThr Γ (ks κ)) (hC : zCtX Γ M' fr lo mc ms (.ref b :: As) S Post E0 PX) (hd : decode (mb M) pc = .ok (.invokevirtual idx, 3)) (hml : Cond.methodLink (mo M) idx (my M') ∈ tz) (hok : zMokV M' n ci) (hb : zIn S.1 b ci) (hci : ci < 10) (hn : As.length = n) (hlen : lv.length = ml M) (hst : st = As.reverse ++ .ref b :: rest) (hrm : (rest.map fun v => v.category).sum ≤ 8) (hR : fr + 1 ≤ R.frames ∧ 8 + (ml M' + 11) + lo ≤ R.locals) (hf : cs + mc ≤ R.cells ∧ sl + ms ≤ R.slots)
    (x : ExceptionTableEntry) (hx : (kc κ).exceptionTable.toList = [x]) (hcov : covers x pc = true) (h0 : x.catchType ≠ 0) (hlk : Cond.classLink (mo M) x.catchType E0 ∈ tz) (hE : E0 ∈ zEx)
    (kk : ∀ r S', Post r S' → zX Γ κ S' (cs + mc) (sl + ms) Q (pc + 3) lv (r.toList ++ rest))
    (kx : ∀ q S', PX S' → zX Γ κ S' (cs + mc) (sl + ms) Q x.handlerPc lv [.ref q]) : zX Γ κ S cs sl Q pc lv st := by
  intro H locs ls h1 h2 h3
  obtain ⟨⟨ho, hd9, hini, hco⟩, him, hse, T, N, hc⟩ := hok
  have hts := F.2.2.2.2.1
  have hRk : kR κ = R := F.2.2.2.2.2.2.2.2.2.1
  have h00 := F.2.2.2.2.2.2.2.2.2.2.2
  obtain ⟨q0, hq⟩ := zW_at (Γ := Γ) (S := S) hb.1
  rw [zE_obj hb.2 hci] at hq
  have hG : GoodIn tz (wsV (mo M) idx (mo M') (my M') (mw M')) := zGoodT (fun w hw => by
    rcases List.mem_append.mp (show w ∈ [.methodLink (mo M) idx (my M'), .instanceMethod (my M'), .selects (mo M') (my M') (my M'), .initialized (mo M')] ++ mw M' from hw) with hw | hw
    · rcases List.mem_cons.mp hw with rfl | hw
      · exact hml
      rcases List.mem_cons.mp hw with rfl | hw
      · exact him
      rcases List.mem_cons.mp hw with rfl | hw
      · exact hse
      rcases List.mem_cons.mp hw with rfl | hw
      · exact hini
      · cases hw
    · rcases List.mem_cons.mp hw with rfl | hw
      · exact hco
      · exact hw) (fun w hw => hw)
  have hr := vx_runV (p := kp κ) (l := gl Γ) (e := ke κ) (R := kR κ) (s := ks κ) (m := km κ) (args := kargs κ) (below := kbelow κ) (meth := kmeth κ) (c := kc κ) (H := H) (locs := locs) (cells := cs) (slots := sl) (g := F0 (km κ) pc ls st) (y := my M') (ws := mw M') (bytes := mb M') (maxL := ml M') (ret := mr M') (own := mo M) (C := mo M') (Ts := tz) (nL := ml M) (n := n) (As := As) (rest := rest) (b := b) ⟨F.1, F.2.1, F.2.2.1, F.2.2.2.1, hts⟩ hC (cwV n hts hG rfl rfl rfl ⟨ho, hd9⟩ (by rw [hRk]; exact hR)) ⟨zPreX_blind, va_recv F.2.2.2.2.2.2.2.2.2.2.1.1 h1.1 hc hq, fun U hU hW => ⟨rfl, F.2.2.2.2.2.2.2.2.2.2.1.warm hW, by rw [hU]; exact h1, TH.warm hW⟩⟩ rfl hn (h3.1.trans hlen) hst (lv_room hrm) hd (by rw [hRk]; exact hf)
  intro T9 hT X
  have keep : ∀ (t T' : State) (S' : Hs) (L : List Loc), T'.heap = t.heap → zHp Γ S' t.heap → H.size ≤ t.heap.size → (∀ q ∈ L, zA0 Γ q.base) → va_S (zA0 Γ) (ks κ).heap T'.heap (locs ++ L) := fun t T' S' L e1 hq hz hL => ⟨Nat.le_trans h2.1 (by rw [e1]; exact hz), fun q q1 q2 => by
      have hq1 : q < (gH Γ).size := Nat.lt_of_not_le q2
      rw [e1, hq.2.2.2 q hq1, h00 q hq1], fun q hq9 => by
      rcases List.mem_append.mp hq9 with h | h
      · exact h2.2.2 q h
      · exact hL q h⟩
  rcases hr T9 hT X with ⟨v, st₀, t, T', L, g0, X', hL, e1, e2, ⟨⟨r, S', hv, hp, hq⟩, hz⟩, stp⟩ | ⟨q, st₀, t, T', L, E, ce, g0, X', hL, e1, e2, ⟨rfl, ⟨S', hp, hq⟩, hz⟩, hce, hcv, hcl, stp⟩
  · cases hv
    rw [g0] at hz
    obtain ⟨t2, a1, b1⟩ := kk v S' hp T'.heap (locs ++ L) ls (by rw [e1]; exact hq) (keep t T' S' L e1 hq hz hL) h3 T' rfl X'
    exact ⟨t2, stp t2 a1, b1⟩
  · rw [g0] at hz
    obtain ⟨t2, a1, b1⟩ := vx_catch (own := mo M) (name := E) (E := E) (ce := ce) (q := q) (pc := pc) (ls := ls) (rest := rest) F.2.2.2.1 [] x [] hx (fun z hz => nomatch hz) hcov h0 (hts _ hlk) (va_Nw.use rfl (TH.2.2.2.2.2 _ hE)) (by rw [e1]; exact hce) hcv hcl (kx q S' hp T'.heap (locs ++ L) ls (by rw [e1]; exact hq) (keep t T' S' L e1 hq hz hL) h3) T' rfl X'
    exact ⟨t2, stp.trans a1, b1⟩
/-- a static call of a method with handlers -/
theorem z_callH {hh : List (Nat × Nat × Nat × Nat)} (F : zFx Γ κ M R) (TH : zThr Γ (ks κ)) (hC : zCtH Γ M' hh fr lo mc ms As S Post) (hd : decode (mb M) pc = .ok (.invokestatic idx, 3)) (hml : Cond.methodLink (mo M) idx (my M') ∈ tz) (ho : (my M').cls = mo M') (hd9 : (my M').cls ≠ "java/lang/invoke/MethodHandle" ∧ (my M').cls ≠ "java/lang/invoke/VarHandle" ∧ (parseMethodDescriptor (my M').desc).map (fun d => d.parameters.length) = some n) (hini : Cond.initialized (mo M') ∈ tz) (hco : Cond.codeWith (my M') (mb M') (ml M') (mr M') hh ∈ tz) (hsta : Cond.static (my M') ∈ tz) (hn : As.length = n) (hlen : lv.length = ml M) (hst : st = As.reverse ++ rest) (hrm : (rest.map fun v => v.category).sum ≤ 8) (hR : fr + 1 ≤ R.frames ∧ 8 + (ml M' + 11) + lo ≤ R.locals) (hf : cs + mc ≤ R.cells ∧ sl + ms ≤ R.slots)
    (kk : ∀ r S', Post r S' → zX Γ κ S' (cs + mc) (sl + ms) Q (pc + 3) lv (r.toList ++ rest)) : zX Γ κ S cs sl Q pc lv st := by
  intro H locs ls h1 h2 h3
  have hts := F.2.2.2.2.1
  have hRk : kR κ = R := F.2.2.2.2.2.2.2.2.2.1
  have hG : GoodIn (mw M) (va_wsS (mo M) idx (my M') (mwH M' hh)) := zGoodT (fun w hw => by
    rcases List.mem_append.mp (show w ∈ [.methodLink (mo M) idx (my M'), .static (my M'), .initialized (my M').cls] ++ mwH M' hh from hw) with hw | hw
    · rcases List.mem_cons.mp hw with rfl | hw
      · exact hml
      rcases List.mem_cons.mp hw with rfl | hw
      · exact hsta
      rcases List.mem_cons.mp hw with rfl | hw
      · rw [ho]; exact hini
      · cases hw
    · rcases List.mem_cons.mp hw with rfl | hw
      · exact hco
      · exact hw) (fun w hw => List.mem_cons_of_mem _ hw)
  exact z_run (vx_runSW (y := my M') (ws := mwH M' hh) (bytes := mb M') (maxL := ml M') (ret := mr M') (own := mo M) (Ts := mw M) (nL := ml M) (n := n) (As := As) (rest := rest) ⟨F.1, F.2.1, F.2.2.1, F.2.2.2.1, hts⟩ hC (vx_cwSW n hts hG rfl rfl rfl hd9 (by rw [hRk]; exact hR)) ⟨zPreX_blind, fun U hU hW => ⟨rfl, F.2.2.2.2.2.2.2.2.2.2.1.warm hW, by rw [hU]; exact h1, TH.warm hW⟩⟩ rfl hn (h3.1.trans hlen) hst (lv_room hrm) hd (by rw [hRk]; exact hf)) h1 h2 h3 F.2.2.2.2.2.2.2.2.2.2.2 kk
end CATCH
abbrev mL_quotient : Mm := (yL_quotient, cL_quotient, 5, (Option.some .int), RL)
abbrev mL_limb : Mm := (yL_limb, cL_limb, 6, (Option.some .int), RL)
def hhQ : List (Nat × Nat × Nat × Nat) := [(0, 10, 13, 13)]
def hhL : List (Nat × Nat × Nat × Nat) := [(0, 12, 15, 19)]
theorem cw_quotient : Cond.codeWith yL_quotient cL_quotient 5 (Option.some .int) hhQ ∈ tz := tz_dec (by decide +kernel)
theorem cw_limb : Cond.codeWith yL_limb cL_limb 6 (Option.some .int) hhL ∈ tz := tz_dec (by decide +kernel)
theorem cl_L13 : Cond.classLink RL 13 nAE ∈ tz := tz_dec (by decide +kernel)
theorem cl_L19 : Cond.classLink RL 19 nIE ∈ tz := tz_dec (by decide +kernel)
theorem pn_L_quotient : plainName (my mL_quotient).cls = true := by decide +kernel
theorem pn_L_limb : plainName (my mL_limb).cls = true := by decide +kernel
/-- what the law's own helpers leave: 1 where it threw, else 0 and the answer in out[0] -/
def oH (Z : Hz) (G : Ga) (V : Hv) (oa : Nat) (x : St × Option Int32) : Int32 → Hs → Prop := fun r S' => ∃ V1, gC Z G V V1 ∧ rC Z G V1 x.1 ∧ ((r = 1 ∧ x.2 = none ∧ S' = (Z, V1)) ∨ (r = 0 ∧ ∃ y : Int32, x.2 = some y ∧ S' = (Z, sJ V1 oa (vp_updL (vJ V1 oa) 0 y.toInt64))))
section LQ
variable {Γ : Gm} {Z : Hz} {G : Ga} {V : Hv} {T : Nat → Fr} {X : Nat → Nat} {s : St} {oa : Nat}
set_option maxRecDepth 100000 in
theorem h_quotient (a b : Int32) (hR : xR Z G) (hC : rCT Z G V T X s) (ho : zIn Z oa 14) (hn : zn Z oa = 1) : zCtH Γ mL_quotient hhQ 7 171 1 6 [.ref G.x, .int a, .int b, .ref oa] (Z, V) (pI (oH Z G V oa (opQuo s a b))) := by
  refine zCtH.of [some (.ref G.x), some (.int a), some (.int b), some (.ref oa), none] pn_L_quotient rfl (Nat.le_of_ble_eq_true rfl) rfl (fun κ F TH hx => ?_)
  refine zy_aload_n F dL_quotient_0 rfl ?_
  refine zy_iconst (v := 0) F dL_quotient_1 (by decide) ?_
  refine zy_aload_n F dL_quotient_2 rfl ?_
  refine zy_iload_n F dL_quotient_3 rfl ?_
  refine zy_iload_n F dL_quotient_4 rfl ?_
  refine zy_callX (As := [.int a, .int b]) (rest := [.int 0, .ref oa]) F TH (c_quotient a b hR hC) dL_quotient_5 ml_L_7 ok_X9_quotient hR.1.1 (by decide) rfl rfl rfl (Nat.le_of_ble_eq_true rfl) (by decide) (by decide) _ hx rfl (by decide) cl_L13 (by decide) (fun r S' h => ?_) (fun q S' h => ?_)
  · obtain ⟨y, rfl, hy, V1, rfl, hg, h1⟩ := h
    refine zy_i2l F dL_quotient_8 ?_
    refine zy_last F dL_quotient_9 ho (by rw [hn]; exact vp_in_nI (n := 0) (N := 1) (by decide) (by decide)) ?_
    refine zy_goto (tgt := 17) F dL_quotient_10 (by decide) ?_
    refine zy_iconst (v := 0) F dL_quotient_17 (by decide) ?_
    exact zy_iret F dL_quotient_18 rfl ⟨V1, hg, h1, Or.inr ⟨rfl, y, hy, rfl⟩⟩
  · obtain ⟨hy, V1, rfl, hg, h1⟩ := h
    refine zy_astore_4 F dL_quotient_13 rfl ?_
    refine zy_iconst (v := 1) F dL_quotient_15 (by decide) ?_
    exact zy_iret F dL_quotient_16 rfl ⟨V1, hg, h1, Or.inl ⟨rfl, hy, rfl⟩⟩
set_option maxRecDepth 100000 in
theorem h_limb (a part k : Int32) (hR : xR Z G) (hC : rCT Z G V T X s) (ho : zIn Z oa 14) (hn : zn Z oa = 1) : zCtH Γ mL_limb hhL 7 106 1 6 [.ref G.x, .int a, .int part, .int k, .ref oa] (Z, V) (pI (oH Z G V oa (s, opLimb s a part k))) := by
  refine zCtH.of [some (.ref G.x), some (.int a), some (.int part), some (.int k), some (.ref oa), none] pn_L_limb rfl (Nat.le_of_ble_eq_true rfl) rfl (fun κ F TH hx => ?_)
  refine zy_aload F dL_limb_0 rfl ?_
  refine zy_iconst (v := 0) F dL_limb_2 (by decide) ?_
  refine zy_aload_n F dL_limb_3 rfl ?_
  refine zy_iload_n F dL_limb_4 rfl ?_
  refine zy_iload_n F dL_limb_5 rfl ?_
  refine zy_iload_n F dL_limb_6 rfl ?_
  refine zy_callX (As := [.int a, .int part, .int k]) (rest := [.int 0, .ref oa]) F TH (c_limb a part k hR hC) dL_limb_7 ml_L_15 ok_X9_limb hR.1.1 (by decide) rfl rfl rfl (Nat.le_of_ble_eq_true rfl) (by decide) (by decide) _ hx rfl (by decide) cl_L19 (by decide) (fun r S' h => ?_) (fun q S' h => ?_)
  · obtain ⟨y, rfl, hy, V1, rfl, hg, h1⟩ := h
    refine zy_i2l F dL_limb_10 ?_
    refine zy_last F dL_limb_11 ho (by rw [hn]; exact vp_in_nI (n := 0) (N := 1) (by decide) (by decide)) ?_
    refine zy_goto (tgt := 19) F dL_limb_12 (by decide) ?_
    refine zy_iconst (v := 0) F dL_limb_19 (by decide) ?_
    exact zy_iret F dL_limb_20 rfl ⟨V1, hg, h1, Or.inr ⟨rfl, y, hy, rfl⟩⟩
  · obtain ⟨hy, V1, rfl, hg, h1⟩ := h
    refine zy_astore_5 F dL_limb_15 rfl ?_
    refine zy_iconst (v := 1) F dL_limb_17 (by decide) ?_
    exact zy_iret F dL_limb_18 rfl ⟨V1, hg, h1, Or.inl ⟨rfl, hy, rfl⟩⟩
end LQ
