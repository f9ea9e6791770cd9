/-! ===== contracts, entry, returns, calls ===== -/
def zav : List Value → Lv
  | [] => []
  | v :: vs => some v :: (if v.category = 2 then none :: zav vs else zav vs)
theorem zav_len (vs : List Value) : (zav vs).length = (lg_sl vs).length := by
  induction vs with
  | nil => rfl
  | cons v vs ih =>
    by_cases h : v.category = 2
    · simp [zav, lg_sl, h] at ih ⊢
      exact ih
    · simp [zav, lg_sl, h] at ih ⊢
      exact ih
theorem zav_mem : ∀ (vs : List Value) (j i : Nat) (v : Value), (zav vs)[i]? = some (some v) → (j + i, v) ∈ lv_args j vs
  | [], j, i, v, h => by simp [zav] at h
  | u :: vs, j, i, v, h => by
    cases i with
    | zero =>
      simp [zav] at h
      subst h
      simp [lv_args]
    | succ i =>
      refine List.mem_cons_of_mem _ ?_
      by_cases hc : u.category = 2
      · cases i with
        | zero => simp [zav, hc] at h
        | succ i =>
          have h9 : (zav vs)[i]? = some (some v) := by simpa [zav, hc] using h
          have := zav_mem vs (j + 2) i v h9
          simp only [hc, if_true]
          rw [show j + (i + 1 + 1) = j + 2 + i by omega]
          exact this
      · have h9 : (zav vs)[i]? = some (some v) := by simpa [zav, hc] using h
        have := zav_mem vs (j + 1) i v h9
        simp only [hc, if_false]
        rw [show j + (i + 1) = j + 1 + i by omega]
        exact this
theorem zLv_entry {vs : List Value} {n : Nat} {lv : Lv} (h : (zav vs).length ≤ n) (hl : zav vs ++ List.replicate (n - (zav vs).length) none = lv) : zLv ((lg_sl vs ++ List.replicate (n - (lg_sl vs).length) Slot.unset).toArray) lv := by
  have h0 := lv_entry vs (n := n) (by rw [← zav_len]; exact h)
  subst hl
  refine ⟨by rw [h0.1]; simp; omega, h0.2.1, fun i v hi => ?_⟩
  have h1 : (zav vs)[i]? = some (some v) := by
    rcases Nat.lt_or_ge i (zav vs).length with hlt | hge
    · rw [List.getElem?_append_left hlt] at hi
      exact hi
    · rw [List.getElem?_append_right hge, List.getElem?_replicate] at hi
      split at hi
      · simp at hi
      · cases hi
  have := zav_mem vs 0 i v h1
  rw [Nat.zero_add] at this
  exact h0.2.2 (i, v) this
def zPre (Γ : Gm) (av : List Value) (S : Hs) : Array Value → State → Prop := va_Pc av (fun U => zTab Γ U ∧ zHp Γ S U.heap)
def zPost (Γ : Gm) (Post : Option Value → Hs → Prop) : Array Value → State → Outcome → State → Prop := fun _ st oc t => (∃ (r : Option Value) (S' : Hs), oc = .returned r ∧ Post r S' ∧ zHp Γ S' t.heap) ∧ st.heap.size ≤ t.heap.size
/-- the contract of a method, over a pool: with frames and locals of room, cells and slots that it makes -/
def zCt (Γ : Gm) (M : Mm) (fr lo mc ms : Nat) (av : List Value) (S : Hs) (Post : Option Value → Hs → Prop) : Prop :=
  Met (gl Γ) (my M) (mw M) { frames := fr, cells := mc, slots := ms, locals := lo } (zPre Γ av S) (zPost Γ Post) mc ms (zA0 Γ)
def zQ (Γ : Gm) (κ : Cx) (Post : Option Value → Hs → Prop) (mc ms : Nat) : State → Prop := MQ (kbelow κ) (zPost Γ Post) (kargs κ) (ks κ) mc ms (zA0 Γ)
theorem zPre_blind {Γ : Gm} {av : List Value} {S : Hs} : FrameBlind (zPre Γ av S) := fun _ _ _ _ h => ⟨h.1, h.2.1.calling, h.2.2⟩
theorem zCt.of {Γ : Gm} {M : Mm} {fr lo mc ms : Nat} {av : List Value} {S : Hs} {Post : Option Value → Hs → Prop} (lv : Lv) (hy : plainName (my M).cls = true) (ho : (my M).cls = mo M) (hn : (zav av).length ≤ ml M) (hl : zav av ++ List.replicate (ml M - (zav av).length) none = lv)
    (body : ∀ κ : Cx, zFx Γ κ M { frames := fr, cells := mc, slots := ms, locals := lo } → zX Γ κ S 0 0 (zQ Γ κ Post mc ms) 0 lv []) : zCt Γ M fr lo mc ms av S Post := by
  refine Met.ofW (cc := mb M) (maxL := ml M) (ret := mr M) hy rfl ?_
  intro p e s m args below meth c s₁ B hml hv
  obtain ⟨rfl, hT, hH⟩ := hv
  have hts := atoms_spec (ws := mw M) B.pre
  have hown : s.vm.findClass (my M).cls = some m.cls := findClass_of_methodNamed B.named
  have hnm : meth.name = (my M).name := (name_of_methodNamed B.named B.method).1
  rw [ho] at hown
  rw [lg_entry_eq]
  exact body (p, e, _, s, m, av.toArray, below, meth, c) ⟨B.exec, B.bytes, hml, hown, hts, B.returns, B.notSynchronized, hH.2.2.1, hnm, rfl, hT, hH.2.2.2⟩ s.heap [] _ hH va_S.rf (zLv_entry hn hl)
theorem zCt.mono {Γ : Gm} {M : Mm} {fr lo mc ms : Nat} {av : List Value} {S : Hs} {P P' : Option Value → Hs → Prop} (h : zCt Γ M fr lo mc ms av S P) (hp : ∀ r S', P r S' → P' r S') : zCt Γ M fr lo mc ms av S P' := by
  intro p e ha hc hk s m args below hf happ hP hK
  obtain ⟨k, o, h1, h2, h3, hQ⟩ := h p e ha hc hk s m args below hf happ hP hK
  obtain ⟨⟨⟨r, S', e1, e2, e3⟩, e4⟩, e5⟩ := hQ
  exact ⟨k, o, h1, h2, h3, ⟨⟨r, S', e1, hp r S' e2, e3⟩, e4⟩, e5⟩
/-- answers -/
abbrev zb (b : Bool) : Int32 := if b = true then 1 else 0
def pV (P : Hs → Prop) : Option Value → Hs → Prop := fun r S => r = none ∧ P S
def pI (P : Int32 → Hs → Prop) : Option Value → Hs → Prop := fun r S => ∃ v : Int32, r = some (.int v) ∧ P v S
def pZ (P : Bool → Hs → Prop) : Option Value → Hs → Prop := fun r S => ∃ b : Bool, r = some (.int (zb b)) ∧ P b S
def pL (P : Int64 → Hs → Prop) : Option Value → Hs → Prop := fun r S => ∃ v : Int64, r = some (.long v) ∧ P v S
def pR (P : Nat → Hs → Prop) : Option Value → Hs → Prop := fun r S => ∃ v : Nat, r = some (.ref v) ∧ P v S
section RET
variable {Γ : Gm} {κ : Cx} {S : Hs} {mc ms pc : Nat} {lv : Lv} {M : Mm} {R : Room}
theorem zret_q {Post : Option Value → Hs → Prop} {r : Option Value} {H : Heap} {locs : List Loc} (hp : Post r S) (h1 : zHp Γ S H) (h2 : va_S (zA0 Γ) (ks κ).heap H locs) : ∀ t : State, t.heap = H → (ks κ).WarmedH t.vm → zPost Γ Post (kargs κ) (ks κ) (.returned r) t := fun t ht _ => ⟨⟨r, S, rfl, hp, by rw [ht]; exact h1⟩, by rw [ht]; exact h2.1⟩
theorem z_vret (F : zFx Γ κ M R) {P : Hs → Prop} (hd : decode (mb M) pc = .ok (.return_, 1)) (hr : mr M = none) (hp : P S) : zX Γ κ S mc ms (zQ Γ κ (pV P) mc ms) pc lv [] := by
  intro H locs ls h1 h2 h3
  exact W.vret F.1 F.2.1 (F.2.2.2.2.2.1.trans hr) (zret_q (Post := pV P) ⟨rfl, hp⟩ h1 h2) h2.2.2 hd F.2.2.2.2.2.2.1
theorem z_iret (F : zFx Γ κ M R) {P : Int32 → Hs → Prop} {v : Int32} (hd : decode (mb M) pc = .ok (.ireturn, 1)) (hr : mr M = some .int) (hp : P v S) : zX Γ κ S mc ms (zQ Γ κ (pI P) mc ms) pc lv [.int v] := by
  intro H locs ls h1 h2 h3
  exact W.iret F.1 F.2.1 (F.2.2.2.2.2.1.trans hr) (zret_q (Post := pI P) ⟨v, rfl, hp⟩ h1 h2) h2.2.2 hd F.2.2.2.2.2.2.1
theorem z_zret (F : zFx Γ κ M R) {P : Bool → Hs → Prop} {v : Int32} (b : Bool) (hd : decode (mb M) pc = .ok (.ireturn, 1)) (hr : mr M = some .boolean) (hv : v = zb b) (hp : P b S) : zX Γ κ S mc ms (zQ Γ κ (pZ P) mc ms) pc lv [.int v] := by
  intro H locs ls h1 h2 h3
  subst hv
  exact W.zret F.1 F.2.1 (F.2.2.2.2.2.1.trans hr) (by cases b <;> decide +kernel) (zret_q (Post := pZ P) ⟨b, rfl, hp⟩ h1 h2) h2.2.2 hd F.2.2.2.2.2.2.1
theorem z_lret (F : zFx Γ κ M R) {P : Int64 → Hs → Prop} {v : Int64} (hd : decode (mb M) pc = .ok (.lreturn, 1)) (hr : mr M = some .long) (hp : P v S) : zX Γ κ S mc ms (zQ Γ κ (pL P) mc ms) pc lv [.long v] := by
  intro H locs ls h1 h2 h3
  exact W.lret F.1 F.2.1 (F.2.2.2.2.2.1.trans hr) (zret_q (Post := pL P) ⟨v, rfl, hp⟩ h1 h2) h2.2.2 hd F.2.2.2.2.2.2.1
theorem z_aret (F : zFx Γ κ M R) {P : Nat → Hs → Prop} {v : Nat} {rt : FieldType} (hd : decode (mb M) pc = .ok (.areturn, 1)) (hr : mr M = some rt) (hrt : (∃ n, rt = .object n) ∨ ∃ t, rt = .array t) (hp : P v S) : zX Γ κ S mc ms (zQ Γ κ (pR P) mc ms) pc lv [.ref v] := by
  intro H locs ls h1 h2 h3
  exact W.aret F.1 F.2.1 (F.2.2.2.2.2.1.trans hr) hrt (Or.inr ⟨v, rfl⟩) (zret_q (Post := pR P) ⟨v, rfl, hp⟩ h1 h2) h2.2.2 hd F.2.2.2.2.2.2.1
end RET
/-- what a callee's tables say: its name is its class's, its code stands in the words, how many parameters -/
def zMok (M : Mm) (n : Nat) : Prop := (my M).cls = mo M ∧ ((my M).cls ≠ "java/lang/invoke/MethodHandle" ∧ (my M).cls ≠ "java/lang/invoke/VarHandle" ∧ (parseMethodDescriptor (my M).desc).map (fun d => d.parameters.length) = some n) ∧ Cond.initialized (mo M) ∈ tz ∧ Cond.code (my M) (mb M) (ml M) (mr M) ∈ tz
def zMokV (M : Mm) (n ci : Nat) : Prop := zMok M n ∧ Cond.instanceMethod (my M) ∈ tz ∧ Cond.selects (mo M) (my M) (my M) ∈ tz ∧ ∃ (T : u_T) (N : Nat), vwCl[ci]? = some (mo M, T, N)
def zMokS (M : Mm) (n : Nat) : Prop := zMok M n ∧ Cond.static (my M) ∈ tz
theorem tz_good {w : Cond} (h : w ∈ tz) : (w.onTables && w.keeps) = true ∨ ∃ ty, w = .arrayClass ty := good_of_word (List.mem_filter.mp h).2
theorem zGood {M M' : Mm} {pre : List Cond} (hp : ∀ w ∈ pre, w ∈ tz) (hc : Cond.code (my M') (mb M') (ml M') (mr M') ∈ tz) : GoodIn (mw M) (pre ++ mw M') := by
  intro w hw
  have h : w ∈ tz := by
    rcases List.mem_append.mp hw with h | h
    · exact hp w h
    · rcases List.mem_cons.mp h with rfl | h
      · exact hc
      · exact h
  exact ⟨List.mem_cons_of_mem _ h, tz_good h⟩
section CALL
variable {Γ : Gm} {κ : Cx} {S : Hs} {cs sl pc : Nat} {Q : State → Prop} {lv : Lv} {st : List Value} {M M' : Mm} {R : Room} {fr lo mc ms idx n b ci : Nat} {As rest : List Value} {Post : Option Value → Hs → Prop}
theorem z_run {H : Heap} {locs : List Loc} {ls : Array Slot} {a : Array Value} (hr : va_Run (kp κ) (gl Γ) (ke κ) (kR κ) (ks κ) (km κ) (kargs κ) (kbelow κ) (kmeth κ) (kc κ) H locs cs sl mc ms (F0 (km κ) pc ls st) rest (zPost Γ Post a) (zA0 Γ)) (h1 : zHp Γ S H) (h2 : va_S (zA0 Γ) (ks κ).heap H locs) (h3 : zLv ls lv) (h00 : ∀ q : Nat, q < (gH Γ).size → (ks κ).heap[q]? = (gH Γ)[q]?)
    (kk : ∀ r S', Post r S' → zX Γ κ S' (cs + mc) (sl + ms) Q (pc + 3) lv (r.toList ++ rest)) : zWk Γ κ H locs cs sl Q (F0 (km κ) pc ls st) := by
  intro T hT X
  obtain ⟨v, st₀, t, T', L, h0, X', hL, e1, e2, ⟨⟨r, S', hv, hp, hq⟩, hz⟩, stp⟩ := hr T hT X
  cases hv
  rw [h0] at hz
  obtain ⟨t2, a1, b1⟩ := kk v S' hp T'.heap (locs ++ L) ls (by rw [e1]; exact hq) ⟨Nat.le_trans h2.1 (by rw [e1]; exact hz), fun q q1 q2 => by
      have hq1 : q < (gH Γ).size := Nat.lt_of_not_le q2
      rw [e1, hq.2.2.2 q hq1, h00 q hq1], fun q hq9 => by
      rcases List.mem_append.mp hq9 with h | h
      · exact h2.2.2 q h
      · exact hL q h⟩ h3 T' rfl X'
  exact ⟨t2, stp t2 a1, b1⟩
theorem z_callV (F : zFx Γ κ M R) (hC : zCt Γ M' fr lo mc ms (.ref b :: As) S Post) (hd : decode (mb M) pc = .ok (.invokevirtual idx, 3)) (hml : Cond.methodLink (mo M) idx (my M') ∈ tz) (hok : zMokV M' n ci) (hb : zIn S.1 b ci) (hci : ci < 10) (hn : As.length = n) (hlen : lv.length = ml M) (hst : st = As.reverse ++ .ref b :: rest) (hrm : (rest.map fun v => v.category).sum ≤ 8) (hR : fr + 1 ≤ R.frames ∧ 8 + (ml M' + 11) + lo ≤ R.locals) (hf : cs + mc ≤ R.cells ∧ sl + ms ≤ R.slots)
    (kk : ∀ r S', Post r S' → zX Γ κ S' (cs + mc) (sl + ms) Q (pc + 3) lv (r.toList ++ rest)) : zX Γ κ S cs sl Q pc lv st := by
  intro H locs ls h1 h2 h3
  obtain ⟨⟨ho, hd9, hini, hco⟩, him, hse, T, N, hc⟩ := hok
  have hts := F.2.2.2.2.1
  have hRk : kR κ = R := F.2.2.2.2.2.2.2.2.2.1
  obtain ⟨q0, hq⟩ := zW_at (Γ := Γ) (S := S) hb.1
  rw [zE_obj hb.2 hci] at hq
  have hG : GoodIn (mw M) (wsV (mo M) idx (mo M') (my M') (mw M')) := zGood (pre := [.methodLink (mo M) idx (my M'), .instanceMethod (my M'), .selects (mo M') (my M') (my M'), .initialized (mo M')]) (fun w hw => by
    rcases List.mem_cons.mp hw with rfl | hw
    · exact hml
    rcases List.mem_cons.mp hw with rfl | hw
    · exact him
    rcases List.mem_cons.mp hw with rfl | hw
    · exact hse
    rcases List.mem_cons.mp hw with rfl | hw
    · exact hini
    · cases hw) hco
  exact z_run (va_runV (y := my M') (ws := mw M') (bytes := mb M') (maxL := ml M') (ret := mr M') (own := mo M) (C := mo M') (Ts := mw M) (nL := ml M) (n := n) (As := As) (rest := rest) (b := b) ⟨F.1, F.2.1, F.2.2.1, F.2.2.2.1, hts⟩ hC (cwV n hts hG rfl rfl rfl ⟨ho, hd9⟩ (by rw [hRk]; exact hR)) ⟨zPre_blind, va_recv F.2.2.2.2.2.2.2.2.2.2.1.1 h1.1 hc hq, fun U hU hW => ⟨rfl, F.2.2.2.2.2.2.2.2.2.2.1.warm hW, by rw [hU]; exact h1⟩⟩ rfl hn (h3.1.trans hlen) hst (lv_room hrm) hd (by rw [hRk]; exact hf)) h1 h2 h3 F.2.2.2.2.2.2.2.2.2.2.2 kk
theorem z_callS (F : zFx Γ κ M R) (hC : zCt Γ M' fr lo mc ms As S Post) (hd : decode (mb M) pc = .ok (.invokestatic idx, 3)) (hml : Cond.methodLink (mo M) idx (my M') ∈ tz) (hok : zMokS M' n) (hn : As.length = n) (hlen : lv.length = ml M) (hst : st = As.reverse ++ rest) (hrm : (rest.map fun v => v.category).sum ≤ 8) (hR : fr + 1 ≤ R.frames ∧ 8 + (ml M' + 11) + lo ≤ R.locals) (hf : cs + mc ≤ R.cells ∧ sl + ms ≤ R.slots)
    (kk : ∀ r S', Post r S' → zX Γ κ S' (cs + mc) (sl + ms) Q (pc + 3) lv (r.toList ++ rest)) : zX Γ κ S cs sl Q pc lv st := by
  intro H locs ls h1 h2 h3
  obtain ⟨⟨ho, hd9, hini, hco⟩, hsta⟩ := hok
  have hts := F.2.2.2.2.1
  have hRk : kR κ = R := F.2.2.2.2.2.2.2.2.2.1
  have hG : GoodIn (mw M) (va_wsS (mo M) idx (my M') (mw M')) := zGood (pre := [.methodLink (mo M) idx (my M'), .static (my M'), .initialized (my M').cls]) (fun w hw => by
    rcases List.mem_cons.mp hw with rfl | hw
    · exact hml
    rcases List.mem_cons.mp hw with rfl | hw
    · exact hsta
    rcases List.mem_cons.mp hw with rfl | hw
    · rw [ho]; exact hini
    · cases hw) hco
  exact z_run (va_runS (y := my M') (ws := mw M') (bytes := mb M') (maxL := ml M') (ret := mr M') (own := mo M) (Ts := mw M) (nL := ml M) (n := n) (As := As) (rest := rest) ⟨F.1, F.2.1, F.2.2.1, F.2.2.2.1, hts⟩ hC (va_cwS n hts hG rfl rfl rfl hd9 (by rw [hRk]; exact hR)) ⟨zPre_blind, fun U hU hW => ⟨rfl, F.2.2.2.2.2.2.2.2.2.2.1.warm hW, by rw [hU]; exact h1⟩⟩ rfl hn (h3.1.trans hlen) hst (lv_room hrm) hd (by rw [hRk]; exact hf)) h1 h2 h3 F.2.2.2.2.2.2.2.2.2.2.2 kk
/-- the same calls, by what comes back -/
theorem z_cVv {P : Hs → Prop} (F : zFx Γ κ M R) (hC : zCt Γ M' fr lo mc ms (.ref b :: As) S (pV P)) (hd : decode (mb M) pc = .ok (.invokevirtual idx, 3)) (hml : Cond.methodLink (mo M) idx (my M') ∈ tz) (hok : zMokV M' n ci) (hb : zIn S.1 b ci) (hci : ci < 10) (hn : As.length = n) (hlen : lv.length = ml M) (hst : st = As.reverse ++ .ref b :: rest) (hrm : (rest.map fun v => v.category).sum ≤ 8) (hR : fr + 1 ≤ R.frames ∧ 8 + (ml M' + 11) + lo ≤ R.locals) (hf : cs + mc ≤ R.cells ∧ sl + ms ≤ R.slots)
    (kk : ∀ S', P S' → zX Γ κ S' (cs + mc) (sl + ms) Q (pc + 3) lv rest) : zX Γ κ S cs sl Q pc lv st :=
  z_callV F hC hd hml hok hb hci hn hlen hst hrm hR hf (fun r S' h => by obtain ⟨rfl, h⟩ := h; exact kk S' h)
theorem z_cVi {P : Int32 → Hs → Prop} (F : zFx Γ κ M R) (hC : zCt Γ M' fr lo mc ms (.ref b :: As) S (pI P)) (hd : decode (mb M) pc = .ok (.invokevirtual idx, 3)) (hml : Cond.methodLink (mo M) idx (my M') ∈ tz) (hok : zMokV M' n ci) (hb : zIn S.1 b ci) (hci : ci < 10) (hn : As.length = n) (hlen : lv.length = ml M) (hst : st = As.reverse ++ .ref b :: rest) (hrm : (rest.map fun v => v.category).sum ≤ 8) (hR : fr + 1 ≤ R.frames ∧ 8 + (ml M' + 11) + lo ≤ R.locals) (hf : cs + mc ≤ R.cells ∧ sl + ms ≤ R.slots)
    (kk : ∀ v S', P v S' → zX Γ κ S' (cs + mc) (sl + ms) Q (pc + 3) lv (.int v :: rest)) : zX Γ κ S cs sl Q pc lv st :=
  z_callV F hC hd hml hok hb hci hn hlen hst hrm hR hf (fun r S' h => by obtain ⟨v, rfl, h⟩ := h; exact kk v S' h)
theorem z_cVz {P : Bool → Hs → Prop} (F : zFx Γ κ M R) (hC : zCt Γ M' fr lo mc ms (.ref b :: As) S (pZ P)) (hd : decode (mb M) pc = .ok (.invokevirtual idx, 3)) (hml : Cond.methodLink (mo M) idx (my M') ∈ tz) (hok : zMokV M' n ci) (hb : zIn S.1 b ci) (hci : ci < 10) (hn : As.length = n) (hlen : lv.length = ml M) (hst : st = As.reverse ++ .ref b :: rest) (hrm : (rest.map fun v => v.category).sum ≤ 8) (hR : fr + 1 ≤ R.frames ∧ 8 + (ml M' + 11) + lo ≤ R.locals) (hf : cs + mc ≤ R.cells ∧ sl + ms ≤ R.slots)
    (kk : ∀ v S', P v S' → zX Γ κ S' (cs + mc) (sl + ms) Q (pc + 3) lv (.int (zb v) :: rest)) : zX Γ κ S cs sl Q pc lv st :=
  z_callV F hC hd hml hok hb hci hn hlen hst hrm hR hf (fun r S' h => by obtain ⟨v, rfl, h⟩ := h; exact kk v S' h)
theorem z_cVl {P : Int64 → Hs → Prop} (F : zFx Γ κ M R) (hC : zCt Γ M' fr lo mc ms (.ref b :: As) S (pL P)) (hd : decode (mb M) pc = .ok (.invokevirtual idx, 3)) (hml : Cond.methodLink (mo M) idx (my M') ∈ tz) (hok : zMokV M' n ci) (hb : zIn S.1 b ci) (hci : ci < 10) (hn : As.length = n) (hlen : lv.length = ml M) (hst : st = As.reverse ++ .ref b :: rest) (hrm : (rest.map fun v => v.category).sum ≤ 8) (hR : fr + 1 ≤ R.frames ∧ 8 + (ml M' + 11) + lo ≤ R.locals) (hf : cs + mc ≤ R.cells ∧ sl + ms ≤ R.slots)
    (kk : ∀ v S', P v S' → zX Γ κ S' (cs + mc) (sl + ms) Q (pc + 3) lv (.long v :: rest)) : zX Γ κ S cs sl Q pc lv st :=
  z_callV F hC hd hml hok hb hci hn hlen hst hrm hR hf (fun r S' h => by obtain ⟨v, rfl, h⟩ := h; exact kk v S' h)
theorem z_cVr {P : Nat → Hs → Prop} (F : zFx Γ κ M R) (hC : zCt Γ M' fr lo mc ms (.ref b :: As) S (pR P)) (hd : decode (mb M) pc = .ok (.invokevirtual idx, 3)) (hml : Cond.methodLink (mo M) idx (my M') ∈ tz) (hok : zMokV M' n ci) (hb : zIn S.1 b ci) (hci : ci < 10) (hn : As.length = n) (hlen : lv.length = ml M) (hst : st = As.reverse ++ .ref b :: rest) (hrm : (rest.map fun v => v.category).sum ≤ 8) (hR : fr + 1 ≤ R.frames ∧ 8 + (ml M' + 11) + lo ≤ R.locals) (hf : cs + mc ≤ R.cells ∧ sl + ms ≤ R.slots)
    (kk : ∀ v S', P v S' → zX Γ κ S' (cs + mc) (sl + ms) Q (pc + 3) lv (.ref v :: rest)) : zX Γ κ S cs sl Q pc lv st :=
  z_callV F hC hd hml hok hb hci hn hlen hst hrm hR hf (fun r S' h => by obtain ⟨v, rfl, h⟩ := h; exact kk v S' h)
theorem z_cSi {P : Int32 → Hs → Prop} (F : zFx Γ κ M R) (hC : zCt Γ M' fr lo mc ms As S (pI P)) (hd : decode (mb M) pc = .ok (.invokestatic idx, 3)) (hml : Cond.methodLink (mo M) idx (my M') ∈ tz) (hok : zMokS M' n) (hn : As.length = n) (hlen : lv.length = ml M) (hst : st = As.reverse ++ rest) (hrm : (rest.map fun v => v.category).sum ≤ 8) (hR : fr + 1 ≤ R.frames ∧ 8 + (ml M' + 11) + lo ≤ R.locals) (hf : cs + mc ≤ R.cells ∧ sl + ms ≤ R.slots)
    (kk : ∀ v S', P v S' → zX Γ κ S' (cs + mc) (sl + ms) Q (pc + 3) lv (.int v :: rest)) : zX Γ κ S cs sl Q pc lv st :=
  z_callS F hC hd hml hok hn hlen hst hrm hR hf (fun r S' h => by obtain ⟨v, rfl, h⟩ := h; exact kk v S' h)
theorem z_cSz {P : Bool → Hs → Prop} (F : zFx Γ κ M R) (hC : zCt Γ M' fr lo mc ms As S (pZ P)) (hd : decode (mb M) pc = .ok (.invokestatic idx, 3)) (hml : Cond.methodLink (mo M) idx (my M') ∈ tz) (hok : zMokS M' n) (hn : As.length = n) (hlen : lv.length = ml M) (hst : st = As.reverse ++ rest) (hrm : (rest.map fun v => v.category).sum ≤ 8) (hR : fr + 1 ≤ R.frames ∧ 8 + (ml M' + 11) + lo ≤ R.locals) (hf : cs + mc ≤ R.cells ∧ sl + ms ≤ R.slots)
    (kk : ∀ v S', P v S' → zX Γ κ S' (cs + mc) (sl + ms) Q (pc + 3) lv (.int (zb v) :: rest)) : zX Γ κ S cs sl Q pc lv st :=
  z_callS F hC hd hml hok hn hlen hst hrm hR hf (fun r S' h => by obtain ⟨v, rfl, h⟩ := h; exact kk v S' h)
theorem z_cSl {P : Int64 → Hs → Prop} (F : zFx Γ κ M R) (hC : zCt Γ M' fr lo mc ms As S (pL P)) (hd : decode (mb M) pc = .ok (.invokestatic idx, 3)) (hml : Cond.methodLink (mo M) idx (my M') ∈ tz) (hok : zMokS M' n) (hn : As.length = n) (hlen : lv.length = ml M) (hst : st = As.reverse ++ rest) (hrm : (rest.map fun v => v.category).sum ≤ 8) (hR : fr + 1 ≤ R.frames ∧ 8 + (ml M' + 11) + lo ≤ R.locals) (hf : cs + mc ≤ R.cells ∧ sl + ms ≤ R.slots)
    (kk : ∀ v S', P v S' → zX Γ κ S' (cs + mc) (sl + ms) Q (pc + 3) lv (.long v :: rest)) : zX Γ κ S cs sl Q pc lv st :=
  z_callS F hC hd hml hok hn hlen hst hrm hR hf (fun r S' h => by obtain ⟨v, rfl, h⟩ := h; exact kk v S' h)
end CALL
