/-! ===== the law: from its entry to the claim (begun from the skeleton) ===== -/
def R_law : String := "FractionRowsLaw"
def lw_P (b : Addr) (xs : List Int32) (args : Array Value) (s : State) : Prop := args = #[.ref b] ∧ s.IntsAt b xs ∧ xs.length ≤ 3585 ∧ (Jvm.Cond.and given_1 narrow_1).before args s = true
def lw_Q (_ : Array Value) (s : State) (o : Outcome) (t : State) : Prop := o = .returned (some (.int 1)) ∧ Framed s o t [] 601024 7293000
def lw_Z (below : List Frame) (a : Array Value) (s : State) : State → Prop := fun t => ∃ o, t.status = .running ∧ Ended t below o ∧ lw_Q a s o t
/-- the law's own end, with 1 on the stack, nothing written that was there before, its room as the claim has it -/
theorem lw_ret {p : Program} {l : Launch} {e : Env} {s : State} {m : MethodId} {below : List Frame} {meth : Method} {c : Code} {b : Nat} (hx : p.tables.exec = Jvm.exec) (hb : c.code = code) (hr : meth.sig.returnType = ret) (hlocks : meth.locks = false) {pc : Nat} {H : Heap} {ls : Array Slot} (hdg : decode code pc = .ok (.ireturn, 1)) : W p l e room_1 s m #[Value.ref b] below meth c H [] 601024 7293000 (lw_Z below #[Value.ref b] s) (F0 m pc ls [.int 1]) := by
  intro T hT X
  obtain ⟨fs, hret, hrun, hended, hW, hframe⟩ := X.leave (v := some (.int 1)) (hlocks := hlocks) (fun h => by rw [hr] at h; cases h)
  have hmeth' : T.vm.method? m = some meth := X.method'
  refine ⟨T.setFrames fs, ?_, .returned (some (.int 1)), hrun, hended, rfl, ⟨_, rfl⟩, hW, hframe⟩
  jvm_step X.here [X.here.top, hx, hb, hdg, hmeth', hr, ret, narrow_b1]
  (try refine ⟨rfl, ?_⟩); (try refine ⟨rfl, ?_⟩)
  first | (intro acts; rw [hret _ acts rfl rfl rfl]) | rw [hret _ _ rfl rfl rfl]
  exact Steps.refl _

section LWSTART
variable {s : State} {args : Array Value}
theorem tb_in {w : Cond} (h : decide (w ∈ lw_tbl) = true) : w ∈ lw_tbl := of_decide_eq_true h
theorem arrOf {ty : FieldType} (h : (Cond.arrayClass ty).before args s = true) : ∃ cA, ArrOfT s cA ty ∧ s.vm.findClass ("[" ++ ty.toString) = some cA := by
  obtain ⟨c, k, comp, h1, h2, h3⟩ := Cond.arrayClass_spec (args := args) (first := s) (o := none) (s := s) (idx := []) h
  exact ⟨c, fun n z => ⟨(fun k h => nomatch h), k, h2, comp, h3⟩, h1⟩
theorem arrOver {C : String} (h : (Cond.arrayOver (.object C)).before args s = true) : ∃ cA, ArrOfT s cA (.object C) ∧ va_RA s cA (.object C) := by
  obtain ⟨comp, c, k, h1, -, h2, h3, h4⟩ := Cond.arrayOver_spec (args := args) (first := s) (o := none) (s := s) (idx := []) h
  exact ⟨c, fun n z => ⟨(fun k h => nomatch h), k, h2, comp, h3⟩, k, comp, h2, h3, h1, h4⟩
theorem kn_ins {ci : Nat} {q : vw_C} (hc : vwCl[ci]? = some q) : ∃ n, Cond.instantiable q.1 n ∈ tz := by
  match ci, hc with
  | 0, hc => cases hc; exact ⟨_, ins_X0⟩
  | 1, hc => cases hc; exact ⟨_, ins_X1⟩
  | 2, hc => cases hc; exact ⟨_, ins_X2⟩
  | 3, hc => cases hc; exact ⟨_, ins_X3⟩
  | 4, hc => cases hc; exact ⟨_, ins_X4⟩
  | 5, hc => cases hc; exact ⟨_, ins_X6⟩
  | 6, hc => cases hc; exact ⟨_, ins_X7⟩
  | 7, hc => cases hc; exact ⟨_, ins_X8⟩
  | 8, hc => cases hc; exact ⟨_, ins_X9⟩
  | 9, hc => cases hc; exact ⟨_, ins_X10⟩
  | n + 10, hc => simp [vwCl] at hc
theorem w_kn (hts : ∀ w ∈ lw_tbl, w.before args s = true) : ∃ D : va_G, ∀ (c : Nat) (q : vw_C), vwCl[c]? = some q → u_Kn s q.1 q.2.1 q.2.2 (D.1 c) (D.2 c) := by
  have h : ∀ c : Nat, ∃ x : ClassId × (Nat → Nat), ∀ q : vw_C, vwCl[c]? = some q → u_Kn s q.1 q.2.1 q.2.2 x.1 x.2 := fun c => by
    cases hc : vwCl[c]? with
    | none => exact ⟨(0, fun _ => 0), fun q h => nomatch h⟩
    | some q =>
      obtain ⟨n, hn⟩ := kn_ins hc
      obtain ⟨cC, iS, hK⟩ := u_known (C := q.1) (T := q.2.1) (N := q.2.2) (n := n) hts (fun w hw => (List.mem_filter.mp (zuw hc w hw)).1) (hts _ (List.mem_filter.mp hn).1)
      exact ⟨(cC, iS), fun q' h => by cases h; exact hK⟩
  obtain ⟨f, hf⟩ := Classical.axiomOfChoice h
  exact ⟨(fun c => (f c).1, fun c => (f c).2), fun c q hq => hf c q hq⟩
theorem nf_in : zNF.all (fun q => decide (Cond.fieldLinkNest q.1 q.2.1 q.2.2.1 q.2.2.2.1 q.2.2.2.2.1 q.2.2.2.2.2 ∈ lw_tbl)) = true := by decide +kernel
theorem nm_in : zNM.all (fun q => decide (Cond.methodLinkNest q.1 q.2.1 q.2.2.1 q.2.2.2 ∈ lw_tbl)) = true := by decide +kernel
theorem ao_in : Cond.arrayOver (.object "FractionRows$Fraction") ∈ lw_tbl := tb_in (by decide +kernel)
theorem ls_wit : Cond.laysStatic "FractionRows$Primes" "WITNESSES" "[I" ∈ lw_tbl := tb_in (by decide +kernel)
theorem in_wit : Cond.initialized "FractionRows$Primes" ∈ lw_tbl := tb_in (by decide +kernel)
theorem ls_us : Cond.laysStatic Bundle.tN "UNASSIGNED_STACK" Bundle.steD ∈ lw_tbl := tb_in (by decide +kernel)
theorem ls_ss : Cond.laysStatic Bundle.tN "SUPPRESSED_SENTINEL" Bundle.listD ∈ lw_tbl := tb_in (by decide +kernel)
theorem in_tn : Cond.initialized Bundle.tN ∈ lw_tbl := tb_in (by decide +kernel)
theorem st_in : zTx.all (fun q => decide (Cond.stringRef "FractionRows" q.1 q.2 ∈ lw_tbl)) = true := by decide +kernel
theorem de_in : zDe.all (fun y => decide (Cond.declares y ∈ lw_tbl)) = true := by decide +kernel
theorem ca_in : zEx.all (fun C => decide (Cond.castable C C ∈ lw_tbl)) = true := by decide +kernel
theorem w_wit {Γ : Gm} (hH : gH Γ = s.heap) (hts : ∀ w ∈ lw_tbl, w.before args s = true) (hgv : (Jvm.Cond.and given_1 narrow_1).before args s = true) : zWit Γ s := by
  have hs := flat_of_before _ hgv
  have hA : ∀ a : Nat, a < s.heap.size → ¬ zA0 Γ a := fun a ha h => by
    have h9 : (gH Γ).size ≤ a := h
    rw [hH] at h9
    omega
  obtain ⟨t, ht, hT⟩ := va_Tof (tm := .static "FractionRows$Primes" "WITNESSES" "[I") (ty := .int) (N := 4) (f := fun j => .int (if j = 0 then 2 else if j = 1 then 3 else if j = 2 then 5 else 7)) (A := zA0 Γ) (args := args) (s := s) (by decide) (hs _ (by decide +kernel)) (va_eqt (hs _ (by decide +kernel))) (fun j hj => by
    match j, hj with
    | 0, _ => exact va_eqt (z := 2) (hs _ (by decide +kernel))
    | 1, _ => exact va_eqt (z := 3) (hs _ (by decide +kernel))
    | 2, _ => exact va_eqt (z := 5) (hs _ (by decide +kernel))
    | 3, _ => exact va_eqt (z := 7) (hs _ (by decide +kernel))) hA
  refine ⟨t, ?_, ?_⟩
  · rw [hH]; exact va_Zof (hts _ ls_wit) (hts _ in_wit) ht hA
  · rw [hH]; exact hT
theorem w_tab (l : Launch) (hts : ∀ w ∈ lw_tbl, w.before args s = true) (hgv : (Jvm.Cond.and given_1 narrow_1).before args s = true) : ∃ D cy, zTab (l, D, s.heap, cy) s := by
  obtain ⟨D, hD⟩ := w_kn hts
  have tzt : ∀ w, w ∈ tz → w.before args s = true := fun w hw => hts w (List.mem_filter.mp hw).1
  obtain ⟨c10, a10, b10⟩ := arrOf (tzt _ ac_byte)
  obtain ⟨c11, a11, b11⟩ := arrOf (tzt _ ac_int)
  obtain ⟨c12, a12, b12⟩ := arrOf (tzt _ ac_boolean)
  obtain ⟨c13, a13, b13⟩ := arrOver (hts _ ao_in)
  obtain ⟨c14, a14, b14⟩ := arrOf (tzt _ ac_long)
  refine ⟨D, fun k => if k = 10 then c10 else if k = 11 then c11 else if k = 12 then c12 else if k = 13 then c13 else c14, ⟨hD, fun k q hk => ?_⟩, fun q hq => ?_, fun q hq => ?_, va_AO.of (hts _ ao_in), w_wit rfl hts hgv⟩
  · match k, hk with
    | 0, hk => cases hk; exact ⟨a10, b10⟩
    | 1, hk => cases hk; exact ⟨a11, b11⟩
    | 2, hk => cases hk; exact ⟨a12, b12⟩
    | 3, hk => cases hk; exact ⟨a13, b13⟩
    | 4, hk => cases hk; exact ⟨a14, b14⟩
    | k + 5, hk => simp [zTys] at hk
  · exact va_Nw.of rfl (hts _ (of_decide_eq_true (List.all_eq_true.mp nf_in q hq)))
  · exact va_Nw.of rfl (hts _ (of_decide_eq_true (List.all_eq_true.mp nm_in q hq)))
theorem w_str {k : Nat} {tx : String} (h1 : (Cond.stringRef "FractionRows" k tx).before args s = true) (h2 : (Cond.exactly (.string "FractionRows" k) "java/lang/String").before args s = true) : ∃ sa : Nat, vk_R "FractionRows" k tx sa s := by
  obtain ⟨a, c, cA, kA, q1, -⟩ := Cond.exactly_spec (args := args) (first := s) (o := none) (s := s) (idx := []) (t := .string "FractionRows" k) (cls := "java/lang/String") h2
  exact ⟨a, vk_R.of h1 q1⟩
theorem w_thr {Γ : Gm} (hl : (gl Γ).stackTraces = false) (hH : gH Γ = s.heap) (hts : ∀ w ∈ lw_tbl, w.before args s = true) (hgv : (Jvm.Cond.and given_1 narrow_1).before args s = true) : zThr Γ s := by
  have hs := flat_of_before _ hgv
  have hA : ∀ a : Nat, a < s.heap.size → ¬ zA0 Γ a := fun a ha h => by
    have h9 : (gH Γ).size ≤ a := h
    rw [hH] at h9
    omega
  refine ⟨hl, ?_, ?_, fun q hq => ?_, fun y hy => ?_, fun C hC => ?_⟩
  · rw [hH]; exact vx_Zqof (hts _ ls_us) (hts _ in_tn) (hs _ (by decide +kernel)) hA
  · rw [hH]; exact vx_Zqof (hts _ ls_ss) (hts _ in_tn) (hs _ (by decide +kernel)) hA
  · have h1 := hts _ (of_decide_eq_true (List.all_eq_true.mp st_in q hq))
    rcases List.mem_cons.mp hq with rfl | hq
    · exact w_str h1 (hs _ (by decide +kernel))
    rcases List.mem_cons.mp hq with rfl | hq
    · exact w_str h1 (hs _ (by decide +kernel))
    rcases List.mem_cons.mp hq with rfl | hq
    · exact w_str h1 (hs _ (by decide +kernel))
    rcases List.mem_cons.mp hq with rfl | hq
    · exact w_str h1 (hs _ (by decide +kernel))
    · cases hq
  · exact va_Nw.of rfl (hts _ (of_decide_eq_true (List.all_eq_true.mp de_in y hy)))
  · exact va_Nw.of rfl (hts _ (of_decide_eq_true (List.all_eq_true.mp ca_in C hC)))
end LWSTART
/-- what holds at the law's entry: the machine, the code and its own word, the tables' words, the script, what is given of the start -/
def lw_At (p : Program) (s : State) (m : MethodId) (meth : Method) (c : Code) (b L : Nat) (xs : Nat → Int32) : Prop :=
  p.tables.exec = Jvm.exec ∧ c.code = code ∧ meth.sig.returnType = ret ∧ c.maxLocals = 7 ∧ s.vm.findClass R_law = some m.cls ∧ (∀ w ∈ lw_tbl, w.before #[Value.ref b] s = true) ∧ va_X b L xs s s.heap ∧ b < s.heap.size ∧ meth.locks = false ∧ (Jvm.Cond.and given_1 narrow_1).before #[Value.ref b] s = true ∧ (Jvm.Cond.code x code maxLocals ret).before #[Value.ref b] s = true ∧ meth.name = x.name
theorem whole_start (hPr : prOk) {p : Program} {e : Env} {s : State} {m : MethodId} {below : List Frame} {meth : Method} {c : Code} (l : Launch) (hfl : l.stackTraces = false) {b L : Nat} {xs : Nat → Int32} (hL : L ≤ 3585) (C0 : lw_At p s m meth c b L xs) : W p l e room_1 s m #[Value.ref b] below meth c s.heap [] 0 0 (lw_Z below #[Value.ref b] s) (entryFrame m ([Value.ref b] : List Value).toArray 7) := by
  obtain ⟨hx, hb, hr, hml, hown, hts, hX, hbl, hlocks, hgv, hcw, hnm⟩ := C0
  obtain ⟨D, cy, hT⟩ := w_tab l hts hgv
  have hTH : zThr (l, D, s.heap, cy) s := w_thr hfl rfl hts hgv
  have F : zFx (l, D, s.heap, cy) (p, e, room_1, s, m, #[Value.ref b], below, meth, c) mL_law rL := ⟨hx, hb, hml, hown, fun w hw => by
    rcases List.mem_cons.mp hw with rfl | hw
    · exact hcw
    · exact hts w (List.mem_filter.mp hw).1, hr, hlocks, Nat.le_refl _, hnm, rfl, hT, fun q _ => rfl⟩
  have hno : ∀ (k : Nat) (q : Nat × va_E), ([] : va_W)[k]? = some q → False := fun k q h => by simp at h
  rw [lg_entry_eq]
  refine w_start (Γ := (l, D, s.heap, cy)) (κ := (p, e, room_1, s, m, #[Value.ref b], below, meth, c)) (S := (([], fun _ => 0, fun _ _ _ => none, fun _ => 0, fun _ _ => none), (fun _ _ _ => 0, fun _ _ => 0, fun _ _ => 0))) hPr F hTH ⟨hX, hbl⟩ hL rfl (fun S' x' m' oa i0 => ?_) s.heap [] _ ⟨fun k q h => (hno k q h).elim, ⟨fun i j p q h => (hno i p h).elim, fun k q h => (hno k q h).elim⟩, Nat.le_refl _, fun q _ => rfl⟩ va_S.rf (zLv_entry (vs := [Value.ref b]) (n := 7) (Nat.le_of_ble_eq_true rfl) rfl)
  refine z_iconst (v := nI 1) F dL_law_1171 (by decide) ?_
  intro H locs ls h1 h2 h3
  exact va_forget h2.2.2 (lw_ret hx hb hr hlocks dL_law_1172)
set_option maxHeartbeats 4000000 in
theorem lw_walk (hPr : prOk) (l : Launch) (hfl : l.stackTraces = false) (b : Addr) (xs : List Int32) : MetFree l x (headSpec (Jvm.Cond.code x code maxLocals ret :: tables_1) room_1) (lw_P b xs) (fun _ _ _ _ _ => True) lw_Q := by
  refine MetFree.of_bodyS (code := code) (maxLocals := maxLocals) (ret := ret) (by decide) ?_ ?_
  · intro args s m h hn
    obtain ⟨meth, c, h1, h2, h3, h4, h5, h6, -, -⟩ := Cond.code_spec hn (atoms_spec (ws := Jvm.Cond.code x code maxLocals ret :: tables_1) h _ List.mem_cons_self)
    exact ⟨meth, c, h1, h2, h3, h4, h5, h6⟩
  · intro p e s m args below meth c s₁ B hml0 hP _
    obtain ⟨rfl, hx, hbd, hgv⟩ := hP
    obtain ⟨scr, harrAt, hlist, hof, hsmall⟩ := hx
    obtain ⟨hcb, hkn, -, -⟩ := State.arrayAt?_spec harrAt
    have hown : s.vm.findClass R_law = some m.cls := findClass_of_methodNamed B.named
    have hts0 : ∀ c ∈ (Jvm.Cond.code x code maxLocals ret :: tables_1), c.before #[Value.ref b] s = true := atoms_spec (ws := Jvm.Cond.code x code maxLocals ret :: tables_1) B.pre
    have hts : ∀ w ∈ lw_tbl, w.before #[Value.ref b] s = true := k2_hts_sels lw_privs (fun w hw => hts0 w (List.mem_cons_of_mem _ hw)) lw_privs_ok
    have hml : c.maxLocals = 7 := B.maxLocals_eq (hts0 _ List.mem_cons_self)
    have X₀ : Stand p l e room_1 s m #[Value.ref b] below meth c s₁ [] 0 0 := Stand.of_body B
    have hh0 : s₁.heap = s.heap := by rw [B.state]; rfl
    have hsz : scr.slots.size = xs.length := by rw [← Array.length_toList, hlist, List.length_map]
    have hval : ∀ j : Nat, j < xs.length → scr.slots[j]? = some (.int (xs.getD j 0)) := fun j hj => by
      rw [← Array.getElem?_toList, hlist]
      simp [hj]
    have hbl : b < s.heap.size := (Array.getElem?_eq_some_iff.mp hcb).1
    have hX : va_X b xs.length (fun j => xs.getD j 0) s s.heap := ⟨scr, hcb, hof, hkn, hsz, hval⟩
    have K : W p l e room_1 s m #[Value.ref b] below meth c s₁.heap [] 0 0 (lw_Z below #[Value.ref b] s) (entryFrame m ([Value.ref b] : List Value).toArray 7) := by
      rw [hh0]
      exact whole_start hPr l hfl hbd ⟨B.exec, B.bytes, B.returns, hml, hown, hts, hX, hbl, B.notSynchronized, hgv, hts0 _ List.mem_cons_self, (name_of_methodNamed B.named B.method).1⟩
    obtain ⟨t, a1, o, b1, b2, b3⟩ := K s₁ rfl X₀
    exact ⟨t, o, a1, b1, b2, b3⟩
theorem lw_pre_spec {args : Array Value} {s : State} (h : (Jvm.Cond.and given_1 narrow_1).before args s = true) (hr : rest_1_c.before args s = true) : ∃ (b : Addr) (xs : List Int32), lw_P b xs args s := by
  have hs := flat_of_before _ h
  have hq := flat_of_before _ hr
  have hc : (Cond.count 1).before args s = true := hs _ (by decide +kernel)
  have harr : (Cond.arrayOf (.arg 0) .int).before args s = true := hs _ (by decide +kernel)
  have hle : (Cond.le (.length (.arg 0)) (.int 3585)).before args s = true := hs _ (by decide +kernel)
  have hlen : (Cond.isInt (.length (.arg 0))).before args s = true := hq _ (by decide +kernel)
  have hall : (Cond.all (.arg 0) (.isInt (.elem (.arg 0) (.index 0)))).before args s = true := hq _ (by decide +kernel)
  obtain ⟨b, xs, hb, hx⟩ := State.ints_of_pre rfl harr hlen hall
  have hsm : xs.length < 2 ^ 31 := hx.choose_spec.2.2.2
  have hev : (Term.length (.arg 0)).eval args s none [] s = some (.int xs.length.toInt32) := hx.length_eval hb
  have hv := Cond.le_ints hev (show (Term.int 3585).eval args s none [] s = some (.int 3585) from rfl)
  have hd : xs.length.toInt32 ≤ 3585 := by
    simpa [Cond.before, Cond.holds, hv] using hle
  have hN : xs.length ≤ 3585 := (Int32.ofNat_le_ofNat hsm (by decide)).mp (show Int32.ofNat xs.length ≤ Int32.ofNat 3585 from hd)
  exact ⟨b, xs, Cond.one_arg hc (show args[0]? = some (.ref b) from hb), hx, hN, h⟩
theorem lw_comes (hPr : prOk) (l : Launch) (hfl : l.stackTraces = false) : Comes l x (Jvm.Cond.code x code maxLocals ret :: tables_1) room_1 (fun tb e args s => Calls_1 tb e args s ∧ rest_1 tb e args s ∧ Pre_1 tb e args s)
    (fun _ _ args s o t => lw_Q args s o t) := by
  intro p e ha hc hk s m args below hf hfit hheap happ hpre
  obtain ⟨b, xs, hP⟩ := lw_pre_spec hpre.2.2 hpre.2.1
  obtain ⟨k, o, h1, h2, h3, hQ⟩ := lw_walk hPr l hfl b xs p e ha hc hk s m args below hf ((Spec.applies_iff_loose hf).mp happ).1 hP trivial
  exact ⟨k, o, h1, h2, h3, hQ⟩
theorem lw_frame {s t : State} {o : Outcome} {args : Array Value} (h : Framed s o t [] 601024 7293000) :
    Framed s o t (fieldLocs frame_1_writes args s ++ arrayLocs frame_1_arrays args s ++ staticLocs frame_1_statics s) 601024 7293000 := h
theorem lw_limb (hPr : prOk) (L : Cond) (hL : ∀ (args : Array Value) (s t : State), L.after args s (.returned (some (.int 1))) t = true) :
    ArmFor flags0 classFile x code maxLocals ret World_1 tables_1 room_1 Calls_1 rest_1 Pre_1
      (fun tb e a s o t => postC L tb e a s o t ∧ Framed s o t (fieldLocs frame_1_writes a s ++ arrayLocs frame_1_arrays a s ++ staticLocs frame_1_statics s) 601024 7293000) := by
  intro l hfl _ _ p e ha hc hk s m args below hf hfit hheap happ hpre
  obtain ⟨k, o, h1, h2, h3, rfl, hF⟩ := lw_comes hPr l (by unfold Launch.stackTraces; rw [hfl]; decide +kernel) p e ha hc hk s m args below hf hfit hheap happ hpre
  exact ⟨k, _, h1, h2, h3, hL args s _, lw_frame hF⟩
