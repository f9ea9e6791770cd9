/-! ===== the law: class and model side by side; the script ===== -/
/-- the model's arrays are none of the class's -/
def ApM (Z : Hz) (G : Ga) (a : Nat → Nat) : Prop := ∀ k, 1 ≤ k → k ≤ 11 → ¬ (pA0 Z (a k) ∨ a k = G.ra ∨ a k = G.co ∨ a k = G.oa ∨ a k = G.c1 ∨ a k = G.c2 ∨ a k = G.c3 ∨ a k = G.ba)
def mFd : Nat → Nat
  | 1 => 0
  | 2 => 1
  | 3 => 10
  | 4 => 11
  | 5 => 12
  | 6 => 13
  | 7 => 14
  | 8 => 15
  | 9 => 16
  | 10 => 19
  | _ => 21
theorem mR.fd {Z : Hz} {a : Nat → Nat} (h : mR Z a) : ∀ k, 1 ≤ k → k ≤ 11 → zR Z 9 (mFd k) (a 0) = some (a k) := by
  obtain ⟨⟨-, h1, h2, h3, h4, h5, h6, h7, h8, h9, h10, h11⟩, -⟩ := h
  intro k hk1 hk2
  match k, hk1, hk2 with
  | 1, _, _ => exact h1
  | 2, _, _ => exact h2
  | 3, _, _ => exact h3
  | 4, _, _ => exact h4
  | 5, _, _ => exact h5
  | 6, _, _ => exact h6
  | 7, _, _ => exact h7
  | 8, _, _ => exact h8
  | 9, _, _ => exact h9
  | 10, _, _ => exact h10
  | 11, _, _ => exact h11
theorem mR.kd {Z : Hz} {a : Nat → Nat} (h : mR Z a) : ∀ k, 1 ≤ k → k ≤ 11 → zIn Z (a k) 11 ∨ zIn Z (a k) 12 := by
  obtain ⟨-, ⟨h1, -, h2, -⟩, h3, ⟨h10, -, h11, -⟩, -⟩ := h
  intro k hk1 hk2
  by_cases e1 : k = 1
  · rw [e1]; exact Or.inl h1
  by_cases e2 : k = 2
  · rw [e2]; exact Or.inr h2
  by_cases e9 : k ≤ 9
  · exact Or.inl (h3 k (by omega) e9).1
  by_cases e10 : k = 10
  · rw [e10]; exact Or.inl h10
  · rw [show k = 11 by omega]; exact Or.inl h11
theorem ApM.of {Z : Hz} {G : Ga} {a : Nat → Nat} {ow : Ow} (hW : WF Z ow) (hR : xR Z G) (hM : mR Z a) : ApM Z G a := by
  intro k hk1 hk2
  have hkd := hM.kd k hk1 hk2
  have k0 : zK Z (a k) ≠ 0 := by rcases hkd with h | h <;> (rw [h.2]; decide)
  have i0 := hM.1.1
  have w1 : ow (a k) = some (a 0, mFd k) := (hW (a 0) (mFd k) (a k) i0.1 (by unfold rf; rw [i0.2]; exact hM.fd k hk1 hk2)).2.resolve_left k0
  -- a place of another kind
  have no : ∀ o c j, zIn Z o c → c ≠ 13 → c ≠ 9 → zR Z c j o = some (a k) → False := fun o c j ho h13 h9 hr => by
    have w2 : ow (a k) = some (o, j) := (hW o j (a k) ho.1 (by unfold rf; rw [ho.2, if_neg h13]; exact hr)).2.resolve_left k0
    have e := w1.symm.trans w2
    injection e with e
    injection e with e _
    rw [← e] at ho
    exact h9 (ho.2.symm.trans i0.2)
  obtain ⟨-, -, -, ⟨hE, hD, hS, -, hT⟩, -⟩ := hR
  rintro (⟨o, ho⟩ | h | h | h | h | h | h | h)
  · exact no o 7 0 ho.1 (by decide) (by decide) ho.2.1
  · exact no G.E 2 3 hE.1.1 (by decide) (by decide) (by rw [h]; exact hE.1.2.2.2.1)
  · exact no G.E 2 4 hE.1.1 (by decide) (by decide) (by rw [h]; exact hE.1.2.2.2.2.1)
  · exact no G.D 1 2 hD.1.1 (by decide) (by decide) (by rw [h]; exact hD.1.2.2.1)
  · exact no G.SO 5 2 hS.1.1 (by decide) (by decide) (by rw [h]; exact hS.1.2.2.1)
  · exact no G.SO 5 3 hS.1.1 (by decide) (by decide) (by rw [h]; exact hS.1.2.2.2.1)
  · exact no G.SO 5 4 hS.1.1 (by decide) (by decide) (by rw [h]; exact hS.1.2.2.2.2.1)
  · exact no G.Y 6 4 hT.1.1 (by decide) (by decide) (by rw [h]; exact hT.1.2.2.2.2.2)
section SIDE
variable {Z : Hz} {G : Ga} {V V' : Hv} {a : Nat → Nat} {n : Nat} {T : Nat → Fr} {L : Nat → Nat} {s : St}
theorem rMT.eq (hi : ∀ k, vI V' 9 k (a 0) = vI V 9 k (a 0)) (hv : ∀ k, 1 ≤ k → k ≤ 11 → vA V' (a k) = vA V (a k)) (h : rMT a V n T L s) : rMT a V' n T L s := by
  obtain ⟨h0, ⟨g1, g2⟩, ⟨⟨f1, f2, f3, f4, f5⟩, ⟨s1, s2⟩, x1, x2, x3⟩, h3⟩ := h
  refine ⟨h0, ⟨?_, fun f hf => ?_⟩, ⟨⟨?_, ?_, f3, ?_, ?_⟩, ⟨?_, fun v hv9 => ?_⟩, ?_, x2, fun i hi9 => ?_⟩, h3⟩
  · rw [hv 1 (by decide) (by decide)]; exact g1
  · rw [hv 2 (by decide) (by decide)]; exact g2 f hf
  · rw [hi]; exact f1
  · rw [hi]; exact f2
  · rw [hi]; exact f4
  · rw [hi]; exact f5
  · rw [hi]; exact s1
  · rw [hi, hi, hv 3 (by decide) (by decide), hv 4 (by decide) (by decide), hv 5 (by decide) (by decide)]; exact s2 v hv9
  · rw [hi]; exact x1
  · rw [hv 10 (by decide) (by decide)]; exact x3 i hi9
theorem rMT.keep (hA : ApM Z G a) (hg : gC Z G V V') (h : rMT a V n T L s) : rMT a V' n T L s := h.eq (fun k => hg.1 _ _ _ (fun z => z rfl)) (fun k h1 h2 => hg.2.1 _ (hA k h1 h2))
theorem rMT.out {oa : Nat} {f : Nat → Int64} (h : rMT a V n T L s) : rMT a (sJ V oa f) n T L s := h.eq (fun _ => rfl) (fun _ _ _ => rfl)
theorem rC.keep (hA : ApM Z G a) (hR : xR Z G) (hg : gM a V V') (h : rC Z G V s) : rC Z G V' s := by
  obtain ⟨T0, X0, hC⟩ := h
  have ni : ∀ {ci k b : Nat}, ci ≠ 9 → vI V' ci k b = vI V ci k b := fun h9 => hg.1 _ _ _ (fun z => h9 z.1)
  have na : ∀ {b : Nat}, (b = G.ra ∨ b = G.co ∨ b = G.oa ∨ b = G.c1 ∨ b = G.c2 ∨ b = G.c3 ∨ b = G.ba) → vA V' b = vA V b := fun {b} hb => hg.2.1 b (fun ⟨k, h1, h2, e⟩ => hA k h1 h2 (Or.inr (by rw [← e]; exact hb)))
  refine ⟨T0, X0, hC.view (KS.keep hC.1 hg (fun ci k b z w => ?_) (fun b ⟨k, h1, h2, e⟩ w => hA k h1 h2 (Or.inl (e ▸ w)))) ⟨fun k => ni (by decide), ni (by decide), ni (by decide), fun k => ni (by decide), fun k => ni (by decide), fun k => ni (by decide), na (by simp), na (by simp), na (by simp), na (by simp)⟩ (tEq.refl G s T0) (xEq.refl G X0)⟩
  rcases w with w | w
  · exact absurd (z.1.symm.trans w.1) (by decide)
  · exact absurd (z.1.symm.trans w.1) (by decide)
theorem rC.out {oa : Nat} {f : Nat → Int64} (h : rC Z G V s) : rC Z G (sJ V oa f) s := by
  obtain ⟨T0, X0, hC⟩ := h
  obtain ⟨val, bel, hV, hT, hX⟩ := hC.1
  exact ⟨T0, X0, hC.view ⟨val, bel, hV, hT, hX⟩ ⟨fun _ => rfl, rfl, rfl, fun _ => rfl, fun _ => rfl, fun _ => rfl, rfl, rfl, rfl, rfl⟩ (tEq.refl G s T0) (xEq.refl G X0)⟩
end SIDE
section THROWN
variable {Γ : Gm} {Z : Hz} {V : Hv} {a : Nat → Nat} {x : Int32}
theorem m_thrown (hR : mR Z a) (h : vI V 9 6 (a 0) = x) : zCt Γ mX10_thrown 0 0 0 0 [.ref (a 0)] (Z, V) (pI (fun r S' => r = x ∧ S' = (Z, V))) := by
  refine zCt.of [some (.ref (a 0))] pn_X10_thrown rfl (Nat.le_of_ble_eq_true rfl) rfl (fun κ F => ?_)
  have b0 := hR.1.1
  refine z_aload_n F dX10_thrown_0 rfl ?_
  refine z_getI F dX10_thrown_1 gi_X10_52 (by assumption) ?_
  refine z_ti h ?_
  exact z_iret F dX10_thrown_4 rfl ⟨rfl, rfl⟩
end THROWN
/-- the script: N ints xs at b, older than the law -/
def zSc (Γ : Gm) (b N : Nat) (xs : Nat → Int32) (U : State) : Prop := va_X b N xs U (gH Γ) ∧ b < (gH Γ).size
theorem zSc.warm {Γ : Gm} {b N : Nat} {xs : Nat → Int32} {u U : State} (hW : u.WarmedH U.vm) (h : zSc Γ b N xs u) : zSc Γ b N xs U := ⟨h.1.moved hW.alike, h.2⟩
theorem zSc.calling {Γ : Gm} {b N : Nat} {xs : Nat → Int32} {U : State} {g : JFrame} {mk : MethodId} {a : Array Value} (h : zSc Γ b N xs U) : zSc Γ b N xs (U.calling g mk a) := ⟨h.1.moved (Vm.Alike.refl U.vm), h.2⟩
section SCRIPT
variable {Γ : Gm} {κ : Cx} {S : Hs} {cs sl pc : Nat} {Q : State → Prop} {lv : Lv} {st : List Value} {M M' : Mm} {R : Room} {b N : Nat} {xs : Nat → Int32}
theorem zSc_S {H : Heap} {locs : List Loc} (h1 : zHp Γ S H) (h2 : va_S (zA0 Γ) (ks κ).heap H locs) : va_S (zA0 Γ) (gH Γ) H locs := ⟨h1.2.2.1, fun q hq _ => h1.2.2.2 q hq, h2.2.2⟩
theorem z_sld (F : zFx Γ κ M R) (hX : zSc Γ b N xs (ks κ)) {i : Int32} (hd : decode (mb M) pc = .ok (.iaload, 1)) (hin : vp_in i N) (k : zX Γ κ S cs sl Q (pc + 1) lv (.int (xs i.toNatClampNeg) :: st)) : zX Γ κ S cs sl Q pc lv (.int i :: .ref b :: st) := fun H locs ls h1 h2 h3 => va_sld F.1 F.2.1 hX.1 hX.2 (Nat.not_le.mpr hX.2) (zSc_S h1 h2) hin hd (k H locs ls h1 h2 h3)
theorem z_slen (F : zFx Γ κ M R) (hX : zSc Γ b N xs (ks κ)) (hd : decode (mb M) pc = .ok (.arraylength, 1)) (k : zX Γ κ S cs sl Q (pc + 1) lv (.int (nI N) :: st)) : zX Γ κ S cs sl Q pc lv (.ref b :: st) := fun H locs ls h1 h2 h3 => va_slen F.1 F.2.1 hX.1 hX.2 (Nat.not_le.mpr hX.2) (zSc_S h1 h2) hd (k H locs ls h1 h2 h3)
def zPreS (Γ : Gm) (b N : Nat) (xs : Nat → Int32) (av : List Value) (S : Hs) : Array Value → State → Prop := va_Pc av (fun U => zTab Γ U ∧ zHp Γ S U.heap ∧ zSc Γ b N xs U)
theorem zPreS_blind {av : List Value} : FrameBlind (zPreS Γ b N xs av S) := fun _ _ _ _ h => ⟨h.1, h.2.1.calling, h.2.2.1, h.2.2.2.calling⟩
def zCtS (Γ : Gm) (b N : Nat) (xs : Nat → Int32) (M : Mm) (fr lo mc ms : Nat) (av : List Value) (S : Hs) (Post : Option Value → Hs → Prop) : Prop :=
  Met (gl Γ) (my M) (mw M) { frames := fr, cells := mc, slots := ms, locals := lo } (zPreS Γ b N xs av S) (zPost Γ Post) mc ms (zA0 Γ)
theorem zCtS.of {fr lo mc ms : Nat} {av : List Value} {Post : Option Value → Hs → Prop} (lv : Lv) (hy : plainName (my M).cls = true) (ho : (my M).cls = mo M) (hn : (zav av).length ≤ ml M) (hl : zav av ++ List.replicate (ml M - (zav av).length) none = lv)
    (body : ∀ κ : Cx, zFx Γ κ M { frames := fr, cells := mc, slots := ms, locals := lo } → zSc Γ b N xs (ks κ) → zX Γ κ S 0 0 (zQ Γ κ Post mc ms) 0 lv []) : zCtS Γ b N xs M fr lo mc ms av S Post := by
  refine Met.ofW (cc := mb M) (maxL := ml M) (ret := mr M) hy rfl ?_
  intro p e s m args below meth c s₁ B hml hv
  obtain ⟨rfl, hT, hH, hR⟩ := hv
  have hts := atoms_spec (ws := mw M) B.pre
  have hown : s.vm.findClass (my M).cls = some m.cls := findClass_of_methodNamed B.named
  have hnm : meth.name = (my M).name := (name_of_methodNamed B.named B.method).1
  rw [ho] at hown
  rw [lg_entry_eq]
  exact body (p, e, _, s, m, av.toArray, below, meth, c) ⟨B.exec, B.bytes, hml, hown, hts, B.returns, B.notSynchronized, hH.2.2.1, hnm, rfl, hT, hH.2.2.2⟩ hR s.heap [] _ hH va_S.rf (zLv_entry hn hl)
theorem z_callSc {fr lo mc ms idx n : Nat} {As rest : List Value} {Post : Option Value → Hs → Prop} (F : zFx Γ κ M R) (hX : zSc Γ b N xs (ks κ)) (hC : zCtS Γ b N xs M' fr lo mc ms As S Post) (hd : decode (mb M) pc = .ok (.invokestatic idx, 3)) (hml : Cond.methodLink (mo M) idx (my M') ∈ tz) (hok : zMokS M' n) (hn : As.length = n) (hlen : lv.length = ml M) (hst : st = As.reverse ++ rest) (hrm : (rest.map fun v => v.category).sum ≤ 8) (hR : fr + 1 ≤ R.frames ∧ 8 + (ml M' + 11) + lo ≤ R.locals) (hf : cs + mc ≤ R.cells ∧ sl + ms ≤ R.slots)
    (kk : ∀ r S', Post r S' → zX Γ κ S' (cs + mc) (sl + ms) Q (pc + 3) lv (r.toList ++ rest)) : zX Γ κ S cs sl Q pc lv st := by
  intro H locs ls h1 h2 h3
  obtain ⟨⟨ho, hd9, hini, hco⟩, hsta⟩ := hok
  have hts := F.2.2.2.2.1
  have hRk : kR κ = R := F.2.2.2.2.2.2.2.2.2.1
  have hG : GoodIn (mw M) (va_wsS (mo M) idx (my M') (mw M')) := zGood (pre := [.methodLink (mo M) idx (my M'), .static (my M'), .initialized (my M').cls]) (fun w hw => by
    rcases List.mem_cons.mp hw with rfl | hw
    · exact hml
    rcases List.mem_cons.mp hw with rfl | hw
    · exact hsta
    rcases List.mem_cons.mp hw with rfl | hw
    · rw [ho]; exact hini
    · cases hw) hco
  exact z_run (va_runS (y := my M') (ws := mw M') (bytes := mb M') (maxL := ml M') (ret := mr M') (own := mo M) (Ts := mw M) (nL := ml M) (n := n) (As := As) (rest := rest) ⟨F.1, F.2.1, F.2.2.1, F.2.2.2.1, hts⟩ hC (va_cwS n hts hG rfl rfl rfl hd9 (by rw [hRk]; exact hR)) ⟨zPreS_blind, fun U hU hW => ⟨rfl, F.2.2.2.2.2.2.2.2.2.2.1.warm hW, by rw [hU]; exact h1, hX.warm hW⟩⟩ rfl hn (h3.1.trans hlen) hst (lv_room hrm) hd (by rw [hRk]; exact hf)) h1 h2 h3 F.2.2.2.2.2.2.2.2.2.2.2 kk
theorem h_cell (hN : N ≤ 3585) : zCtS Γ b N xs mL_cell 0 0 0 0 [.ref b, .int (nI 0)] S (pI (fun r S' => r = (if 0 < N then xs 0 else 0) ∧ S' = S)) := by
  refine zCtS.of [some (.ref b), some (.int (nI 0))] pn_L_cell rfl (Nat.le_of_ble_eq_true rfl) rfl (fun κ F hX => ?_)
  refine z_iload_n F dL_cell_0 rfl ?_
  refine z_aload_n F dL_cell_1 rfl ?_
  refine z_slen F hX dL_cell_2 ?_
  refine z_icmp_ge (tgt := 12) F dL_cell_3 (by decide) (fun c => ?_) (fun c => ?_)
  · have h0 : ¬ 0 < N := fun z => by
      have h1 := (nI_ltI (a := 0) (b := N) (by decide) (by omega)).mpr z
      have h2 := Int32.lt_iff_toInt_lt.mp h1
      have h3 := Int32.le_iff_toInt_le.mp c
      omega
    rw [if_neg h0]
    refine z_iconst (v := nI 0) F dL_cell_12 (by decide) ?_
    exact z_iret F dL_cell_13 rfl ⟨rfl, rfl⟩
  · have h0 : 0 < N := Nat.pos_of_ne_zero (fun z => c (by rw [z]; exact Int32.le_iff_toInt_le.mpr (Int.le_refl _)))
    rw [if_pos h0]
    refine z_aload_n F dL_cell_6 rfl ?_
    refine z_iload_n F dL_cell_7 rfl ?_
    refine z_sld F hX dL_cell_8 (vp_in_nI h0 (by omega)) ?_
    refine z_goto (tgt := 13) F dL_cell_9 (by decide) ?_
    exact z_iret F dL_cell_13 rfl ⟨rfl, rfl⟩
end SCRIPT
