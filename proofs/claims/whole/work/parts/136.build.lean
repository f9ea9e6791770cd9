/-! ===== the new objects stand for the beginning ===== -/
theorem nI_5 {n m : Nat} (h : nI n = nI m) (hn : n ≤ 5) (hm : m ≤ 5) : n = m := (nI_inj32 (by omega) (by omega)).mp h
/-- what an address is for, by who holds it -/
def fcG (ow : Ow) (na ea wk E D ua SO J : Nat) (q : Nat) : Nat := match ow q with
  | none => 0
  | some (a, k) => if a = na then 1 else if a = ea then 2 else if a = wk then 3 else if a = E then (if k = 5 then 4 else if k = 6 then 5 else if k = 3 then 12 else 13) else if a = D then (if k = 3 then 6 else 14) else if a = ua then 7 else if a = SO then (if k = 6 then 8 else if k = 7 then 9 else if k = 2 then 15 else if k = 3 then 16 else 17) else if a = J then 10 else 11
set_option maxRecDepth 100000 in
set_option maxHeartbeats 4000000 in
theorem build_x {Z : Hz} {V : Hv} {ow : Ow} {val : Nat → Nat} {x n A na ea E D SO J Y : Nat} (hC : CI (Z, V) ow val) (hF : ∀ a, a ∈ zL Z → FIN Z V val a) (hX : X8 Z V x n A na ea E D SO J Y) : ∃ G : Ga, G.x = x ∧ G.n = n ∧ xR Z G ∧ rC Z G V St0 := by
  obtain ⟨⟨xi, x1, x2, x3, x4, x5, x6, x7, x8⟩, ⟨iA, ina, nna, iea, nea, iE, iD, iS, iJ, iY⟩, ⟨eA, eN, dA, dN, sA', sN, jA, yA⟩, v0, v9, v10, hn1, hn5⟩ := hX
  have own : ∀ {a k q c : Nat}, a ∈ zL Z → rf Z a k = some q → zIn Z q c → c ≠ 0 → ow q = some (a, k) := fun ha hr hq hc => (hC.1 _ _ _ ha hr).2.resolve_left (by rw [hq.2]; exact hc)
  have rfo : ∀ {a c k q : Nat}, zIn Z a c → c ≠ 13 → zR Z c k a = some q → rf Z a k = some q := fun ha hc hr => by unfold rf; rw [ha.2, if_neg hc]; exact hr
  have rfa : ∀ {a k q : Nat}, zIn Z a 13 → zA Z a k = some q → rf Z a k = some q := fun ha hr => by unfold rf; rw [if_pos ha.2]; exact hr
  have iw : ∀ {q : Nat}, zIn Z q 7 → iW Z q := fun h => (hF _ h.1).1 h.2
  obtain ⟨n2, A2, wk, ra, co, fa, pd, ⟨e1, e2, e3, e4, e5, e6⟩, ⟨f1, f2, f3, f4, f5, f6, f7, f8, f9⟩, vn2, -, m5⟩ := (hF E iE.1).2.2.2.2.1 iE.2
  have hA2 : A2 = A := Option.some.inj (e1.symm.trans eA)
  have hn2 : n2 = n := nI_5 (vn2.symm.trans eN) m5 hn5
  subst hA2 hn2
  obtain ⟨n3, A3, oa, pr, ⟨g1, g2, g3⟩, ⟨h1, h2, h3, h4⟩, vn3, -, m53⟩ := (hF D iD.1).2.2.2.2.2.1 iD.2
  have hA3 : A3 = A2 := Option.some.inj (g1.symm.trans dA)
  have hn3 : n3 = n2 := nI_5 (vn3.symm.trans dN) m53 hn5
  subst hA3 hn3
  obtain ⟨n4, A4, c1, c2, c3, ua, pq, su, ⟨s1, s2, s3, s4, s5, s6, s7⟩, ⟨t0, t1', t2', t3', t4', t5', t6', t7', t8', t9', t10'⟩, vn4, v8, -, m54⟩ := (hF SO iS.1).2.2.2.2.2.2.1 iS.2
  have hA4 : A4 = A3 := Option.some.inj (s1.symm.trans sA')
  have hn4 : n4 = n3 := nI_5 (vn4.symm.trans sN) m54 hn5
  subst hA4 hn4
  obtain ⟨A5, j0, j1, jk, jv9⟩ := (hF J iJ.1).2.2.2.2.2.2.2.1 iJ.2
  obtain ⟨A6, ba, y0, y1, yk, y4, y5, y6, yv5⟩ := (hF Y iY.1).2.2.2.2.2.2.2.2 iY.2
  have ak := (hF _ iA.1).2.2.1 iA.2
  have fna := (hF na ina.1).2.2.2.1 ina.2
  have fea := (hF ea iea.1).2.2.2.1 iea.2
  have fwk := (hF wk f2.1).2.2.2.1 f2.2
  have fua := (hF ua t7'.1).2.2.2.1 t7'.2
  rw [nna] at fna
  rw [nea] at fea
  rw [f3] at fwk
  rw [t8'] at fua
  -- who holds the arrays
  have o_na := own xi.1 (rfo xi (by decide) x2) ina (by decide)
  have o_ea := own xi.1 (rfo xi (by decide) x3) iea (by decide)
  have o_wk := own iE.1 (rfo iE (by decide) e2) f2 (by decide)
  have o_ua := own iS.1 (rfo iS (by decide) s5) t7' (by decide)
  have kne : ∀ {a b c d : Nat}, zIn Z a c → zIn Z b d → c ≠ d → a ≠ b := fun ha hb hcd e => hcd (ha.2.symm.trans (e ▸ hb.2))
  have n1 : ea ≠ na := fun e => by rw [e, o_na] at o_ea; cases o_ea
  have n2' : wk ≠ na := fun e => by
    rw [e, o_na] at o_wk
    injection o_wk with z
    injection z with z1
    exact kne xi iE (by decide) z1
  have n3' : wk ≠ ea := fun e => by
    rw [e, o_ea] at o_wk
    injection o_wk with z
    injection z with z1
    exact kne xi iE (by decide) z1
  have n4' : ua ≠ na := fun e => by
    rw [e, o_na] at o_ua
    injection o_ua with z
    injection z with z1
    exact kne xi iS (by decide) z1
  have n5' : ua ≠ ea := fun e => by
    rw [e, o_ea] at o_ua
    injection o_ua with z
    injection z with z1
    exact kne xi iS (by decide) z1
  have n6' : ua ≠ wk := fun e => by
    rw [e, o_wk] at o_ua
    injection o_ua with z
    injection z with z1
    exact kne iE iS (by decide) z1
  obtain ⟨G, hG⟩ : ∃ G : Ga, G = ((fun i => match i with | 0 => x | 1 => A4 | 2 => na | 3 => ea | 4 => E | 5 => D | 6 => SO | 7 => J | 8 => Y | 9 => wk | 10 => ra | 11 => co | 12 => fa | 13 => pd | 14 => oa | 15 => pr | 16 => c1 | 17 => c2 | 18 => c3 | 19 => ua | 20 => pq | 21 => su | 22 => (zR Z 6 1 Y).getD 0 | 23 => (zR Z 6 2 Y).getD 0 | 24 => (zR Z 6 3 Y).getD 0 | 25 => ba | _ => n4), fun i => match i with | 0 => (fun i => (zA Z na i).getD 0) | 1 => (fun i => (zA Z ea i).getD 0) | 2 => (fun i => (zA Z wk i).getD 0) | 3 => (fun i => (zA Z ua i).getD 0) | 4 => (fun q => (zR Z 3 0 q).getD 0) | 5 => (fun q => (zR Z 3 1 q).getD 0) | 6 => (fun k => (zR Z 0 k A4).getD 0) | 7 => (fun k => (zR Z 4 k J).getD 0) | _ => fcG ow na ea wk E D ua SO J) := ⟨_, rfl⟩
  -- elements
  have enu : ∀ i, i < 40 → zA Z na i = some (G.nu i) ∧ zIn Z (G.nu i) 3 ∧ ow (G.nu i) = some (na, i) := fun i hi => by
    obtain ⟨q, a1, a2⟩ := fna i hi
    have e : G.nu i = q := by rw [hG]; show (zA Z na i).getD 0 = q; rw [a1]; rfl
    rw [e]
    exact ⟨a1, a2, own ina.1 (rfa ina a1) a2 (by decide)⟩
  have eee : ∀ i, i < n4 * (n4 + 1) → zA Z ea i = some (G.ee i) ∧ zIn Z (G.ee i) 3 ∧ ow (G.ee i) = some (ea, i) := fun i hi => by
    obtain ⟨q, a1, a2⟩ := fea i hi
    have e : G.ee i = q := by rw [hG]; show (zA Z ea i).getD 0 = q; rw [a1]; rfl
    rw [e]
    exact ⟨a1, a2, own iea.1 (rfa iea a1) a2 (by decide)⟩
  have ewe : ∀ i, i < n4 * (n4 + 1) → zA Z wk i = some (G.we i) ∧ zIn Z (G.we i) 3 ∧ ow (G.we i) = some (wk, i) := fun i hi => by
    obtain ⟨q, a1, a2⟩ := fwk i hi
    have e : G.we i = q := by rw [hG]; show (zA Z wk i).getD 0 = q; rw [a1]; rfl
    rw [e]
    exact ⟨a1, a2, own f2.1 (rfa f2 a1) a2 (by decide)⟩
  have euk : ∀ i, i < n4 → zA Z ua i = some (G.uk i) ∧ zIn Z (G.uk i) 3 ∧ ow (G.uk i) = some (ua, i) := fun i hi => by
    obtain ⟨q, a1, a2⟩ := fua i hi
    have e : G.uk i = q := by rw [hG]; show (zA Z ua i).getD 0 = q; rw [a1]; rfl
    rw [e]
    exact ⟨a1, a2, own t7'.1 (rfa t7' a1) a2 (by decide)⟩
  have ew : ∀ k, k < 12 → zR Z 0 k A4 = some (G.w k) ∧ zIn Z (G.w k) 7 ∧ ow (G.w k) = some (A4, k) := fun k hk => by
    obtain ⟨q, a1, a2⟩ := ak k hk
    have e : G.w k = q := by rw [hG]; show (zR Z 0 k A4).getD 0 = q; rw [a1]; rfl
    rw [e]
    exact ⟨a1, a2, own iA.1 (rfo iA (by decide) a1) a2 (by decide)⟩
  have ej : ∀ k, 1 ≤ k → k ≤ 8 → zR Z 4 k J = some (G.jw k) ∧ zIn Z (G.jw k) 7 ∧ ow (G.jw k) = some (J, k) ∧ val (G.jw k) = if k = 2 then 1 else 0 := fun k h1 h2 => by
    obtain ⟨q, a1, a2, a3⟩ := jk k h1 h2
    have e : G.jw k = q := by rw [hG]; show (zR Z 4 k J).getD 0 = q; rw [a1]; rfl
    rw [e]
    exact ⟨a1, a2, own iJ.1 (rfo iJ (by decide) a1) a2 (by decide), a3⟩
  have ey : ∀ k, 1 ≤ k → k ≤ 3 → zR Z 6 k Y = some (G.1 (21 + k)) ∧ zIn Z (G.1 (21 + k)) 7 ∧ ow (G.1 (21 + k)) = some (Y, k) ∧ val (G.1 (21 + k)) = if k = 1 then 1 else 0 := fun k h1 h2 => by
    obtain ⟨q, a1, a2, a3⟩ := yk k h1 h2
    have e : G.1 (21 + k) = q := by
      rw [hG]
      match k, h1, h2 with
      | 1, _, _ => show (zR Z 6 1 Y).getD 0 = q; rw [a1]; rfl
      | 2, _, _ => show (zR Z 6 2 Y).getD 0 = q; rw [a1]; rfl
      | 3, _, _ => show (zR Z 6 3 Y).getD 0 = q; rw [a1]; rfl
    rw [e]
    exact ⟨a1, a2, own iY.1 (rfo iY (by decide) a1) a2 (by decide), a3⟩
  have euv : ∀ q, zIn Z q 3 → zR Z 3 0 q = some (G.uo q) ∧ zR Z 3 1 q = some (G.vo q) ∧ zIn Z (G.uo q) 7 ∧ zIn Z (G.vo q) 7 ∧ ow (G.uo q) = some (q, 0) ∧ ow (G.vo q) = some (q, 1) ∧ val (G.uo q) = 0 ∧ val (G.vo q) = 1 ∧ vI V 3 2 q = 0 := fun q hq => by
    obtain ⟨u, v, a1, a2, a3, a4, a5, a6, a7⟩ := (hF q hq.1).2.1 hq.2
    have e : G.uo q = u := by rw [hG]; show (zR Z 3 0 q).getD 0 = u; rw [a1]; rfl
    have e' : G.vo q = v := by rw [hG]; show (zR Z 3 1 q).getD 0 = v; rw [a2]; rfl
    rw [e, e']
    exact ⟨a1, a2, a3, a4, own hq.1 (rfo hq (by decide) a1) a3 (by decide), own hq.1 (rfo hq (by decide) a2) a4 (by decide), a5, a6, a7⟩
  have go : ∀ {a b : Nat} {p q : Nat × Nat}, ow a = some p → ow b = some q → a = b → p = q := fun h1 h2 e => by rw [e, h2] at h1; exact (Option.some.inj h1).symm
  have g0 : G.x = x ∧ G.A = A4 ∧ G.na = na ∧ G.ea = ea ∧ G.E = E ∧ G.D = D ∧ G.SO = SO ∧ G.J = J ∧ G.Y = Y := by rw [hG]; exact ⟨rfl, rfl, rfl, rfl, rfl, rfl, rfl, rfl, rfl⟩
  have gE : G.wk = wk ∧ G.ra = ra ∧ G.co = co ∧ G.fa = fa ∧ G.pd = pd ∧ G.oa = oa ∧ G.pr = pr ∧ G.c1 = c1 ∧ G.c2 = c2 ∧ G.c3 = c3 ∧ G.ua = ua ∧ G.pq = pq ∧ G.su = su ∧ G.ba = ba ∧ G.n = n4 := by rw [hG]; exact ⟨rfl, rfl, rfl, rfl, rfl, rfl, rfl, rfl, rfl, rfl, rfl, rfl, rfl, rfl, rfl⟩
  have gf : G.fc = fcG ow na ea wk E D ua SO J := by rw [hG]; rfl
  obtain ⟨gx, gA, gna, gea, gEE, gD, gSO, gJ, gY⟩ := g0
  obtain ⟨gwk, gra, gco, gfa, gpd, goa, gpr, gc1, gc2, gc3, gua, gpq, gsu, gba, gn⟩ := gE
  have o_fa := own iE.1 (rfo iE (by decide) e5) f8 (by decide)
  have o_pd := own iE.1 (rfo iE (by decide) e6) f9 (by decide)
  have o_ra := own iE.1 (rfo iE (by decide) e3) f4 (by decide)
  have o_co := own iE.1 (rfo iE (by decide) e4) f6 (by decide)
  have o_oa := own iD.1 (rfo iD (by decide) g2) h2 (by decide)
  have o_pr := own iD.1 (rfo iD (by decide) g3) h4 (by decide)
  have o_c1 := own iS.1 (rfo iS (by decide) s2) t1' (by decide)
  have o_c2 := own iS.1 (rfo iS (by decide) s3) t3' (by decide)
  have o_c3 := own iS.1 (rfo iS (by decide) s4) t5' (by decide)
  have o_pq := own iS.1 (rfo iS (by decide) s6) t9' (by decide)
  have o_su := own iS.1 (rfo iS (by decide) s7) t10' (by decide)
  -- no Whole's limbs
  have np : ∀ {a b k c : Nat}, ow a = some (b, k) → zIn Z b c → c ≠ 7 → ¬ pA0 Z a := fun ho hb hc ⟨w, hw⟩ => by
    have o2 := own hw.1.1 (rfo hw.1 (by decide) hw.2.1) hw.2.2.1 (by decide)
    have := go ho o2 rfl
    injection this with z
    exact kne hb hw.1 hc z
  -- what is no part of a Fraction and no Whole of the Arithmetic
  have xw : ∀ {q b k c : Nat}, zIn Z q 7 → ow q = some (b, k) → zIn Z b c → c ≠ 0 → c ≠ 3 → xW Z G.uo G.vo G.w q := fun hq ho hb h0 h3 => by
    refine ⟨iw hq, fun ⟨k, hk, e⟩ => ?_, fun r hr => ⟨fun e => ?_, fun e => ?_⟩⟩
    · have := go ho (ew k hk).2.2 e
      injection this with z
      exact kne hb iA h0 z
    · have := go ho (euv r hr).2.2.2.2.1 e
      injection this with z
      exact kne hb hr h3 z
    · have := go ho (euv r hr).2.2.2.2.2.1 e
      injection this with z
      exact kne hb hr h3 z
  have hfS : fS Z G.uo G.vo G.w := by
    refine ⟨fun q hq => ⟨⟨hq, (euv q hq).1, (euv q hq).2.1, iw (euv q hq).2.2.1, iw (euv q hq).2.2.2.1⟩, fun k hk => ⟨fun e => ?_, fun e => ?_⟩⟩, fun q q' hq hq' => ⟨fun e => ?_, fun e => ?_, fun e => ?_⟩⟩
    · have := go (euv q hq).2.2.2.2.1 (ew k hk).2.2 e
      injection this with z
      exact kne hq iA (by decide) z
    · have := go (euv q hq).2.2.2.2.2.1 (ew k hk).2.2 e
      injection this with z
      exact kne hq iA (by decide) z
    · have := go (euv q hq).2.2.2.2.1 (euv q' hq').2.2.2.2.1 e
      injection this
    · have := go (euv q hq).2.2.2.2.2.1 (euv q' hq').2.2.2.2.2.1 e
      injection this
    · have := go (euv q hq).2.2.2.2.1 (euv q' hq').2.2.2.2.2.1 e
      injection this with _ z
      cases z
  have haR : aR Z A4 G.w := ⟨iA, fun k hk => ⟨(ew k hk).1, iw (ew k hk).2.1⟩, fun i j hi hj e => by
    have := go (ew i hi).2.2 (ew j hj).2.2 e
    injection this⟩
  have heR : eR Z E n4 A4 wk ra co fa pd G.we := by
    refine ⟨⟨iE, eA, e2, e3, e4, e5, e6⟩, ⟨f2, f3, f4, f5, f6, f7, f8, f9⟩, fun i hi => ⟨(ewe i hi).1, (ewe i hi).2.1, fun e => ?_, fun e => ?_⟩, fun i j hi hj e => ?_, fun e => ?_, fun e => ?_, np o_ra iE (by decide), np o_co iE (by decide), hn1, hn5⟩
    · have := go (ewe i hi).2.2 o_fa e
      injection this with z
      exact kne f2 iE (by decide) z
    · have := go (ewe i hi).2.2 o_pd e
      injection this with z
      exact kne f2 iE (by decide) z
    · have := go (ewe i hi).2.2 (ewe j hj).2.2 e
      injection this
    · have := go o_fa o_pd e
      injection this with _ z
      cases z
    · have := go o_ra o_co e
      injection this with _ z
      cases z
  have hdR : dR Z D n4 A4 oa pr := ⟨⟨iD, dA, g2, g3⟩, ⟨h2, h3, h4⟩, np o_oa iD (by decide), hn1, hn5⟩
  have hsR : sR Z SO n4 A4 c1 c2 c3 ua pq su G.uk := by
    refine ⟨⟨iS, sA', s2, s3, s4, s5, s6, s7⟩, ⟨t1', t2', t3', t4', t5', t6', t9', t10', t7', t8', fun i hi => ⟨(euk i hi).1, (euk i hi).2.1⟩⟩, fun i j hi hj e => ?_, fun i hi => ⟨fun e => ?_, fun e => ?_⟩, fun e => ?_, ⟨fun e => ?_, fun e => ?_, fun e => ?_⟩, np o_c1 iS (by decide), np o_c2 iS (by decide), np o_c3 iS (by decide), hn1, hn5⟩
    · have := go (euk i hi).2.2 (euk j hj).2.2 e
      injection this
    · have := go (euk i hi).2.2 o_pq e
      injection this with z
      exact kne t7' iS (by decide) z
    · have := go (euk i hi).2.2 o_su e
      injection this with z
      exact kne t7' iS (by decide) z
    · have := go o_pq o_su e
      injection this with _ z
      cases z
    · have := go o_c1 o_c2 e
      injection this with _ z
      cases z
    · have := go o_c1 o_c3 e
      injection this with _ z
      cases z
    · have := go o_c2 o_c3 e
      injection this with _ z
      cases z
  have hjR : jR Z G.uo G.vo G.w J A4 G.jw := ⟨iJ, jA, fun k h1 h2 => ⟨(ej k h1 h2).1, xw (ej k h1 h2).2.1 (ej k h1 h2).2.2.1 iJ (by decide) (by decide)⟩, fun i j h1 h2 h3 h4 e => by
    have := go (ej i h1 h2).2.2.1 (ej j h3 h4).2.2.1 e
    injection this⟩
  obtain ⟨ya1, ya2, ya3, ya4⟩ := ey 1 (by decide) (by decide)
  obtain ⟨yb1, yb2, yb3, yb4⟩ := ey 2 (by decide) (by decide)
  obtain ⟨yc1, yc2, yc3, yc4⟩ := ey 3 (by decide) (by decide)
  have htR : tR Z G.uo G.vo G.w Y A4 G.t1 G.t2 G.t3 ba := by
    refine ⟨⟨iY, yA, ya1, yb1, yc1, y4⟩, ⟨xw ya2 ya3 iY (by decide) (by decide), xw yb2 yb3 iY (by decide) (by decide), xw yc2 yc3 iY (by decide) (by decide)⟩, ⟨fun e => ?_, fun e => ?_, fun e => ?_⟩, y5, y6⟩
    · have := go ya3 yb3 e
      injection this with _ z
      cases z
    · have := go ya3 yc3 e
      injection this with _ z
      cases z
    · have := go yb3 yc3 e
      injection this with _ z
      cases z
  have kE1 : E ≠ na := kne iE ina (by decide)
  have kE2 : E ≠ ea := kne iE iea (by decide)
  have kE3 : E ≠ wk := kne iE f2 (by decide)
  have kD1 : D ≠ na := kne iD ina (by decide)
  have kD2 : D ≠ ea := kne iD iea (by decide)
  have kD3 : D ≠ wk := kne iD f2 (by decide)
  have kD4 : D ≠ E := kne iD iE (by decide)
  have kU1 : ua ≠ E := kne t7' iE (by decide)
  have kU2 : ua ≠ D := kne t7' iD (by decide)
  have kS1 : SO ≠ na := kne iS ina (by decide)
  have kS2 : SO ≠ ea := kne iS iea (by decide)
  have kS3 : SO ≠ wk := kne iS f2 (by decide)
  have kS4 : SO ≠ E := kne iS iE (by decide)
  have kS5 : SO ≠ D := kne iS iD (by decide)
  have kS6 : SO ≠ ua := kne iS t7' (by decide)
  have kJ1 : J ≠ na := kne iJ ina (by decide)
  have kJ2 : J ≠ ea := kne iJ iea (by decide)
  have kJ3 : J ≠ wk := kne iJ f2 (by decide)
  have kJ4 : J ≠ E := kne iJ iE (by decide)
  have kJ5 : J ≠ D := kne iJ iD (by decide)
  have kJ6 : J ≠ ua := kne iJ t7' (by decide)
  have kJ7 : J ≠ SO := kne iJ iS (by decide)
  have kY1 : Y ≠ na := kne iY ina (by decide)
  have kY2 : Y ≠ ea := kne iY iea (by decide)
  have kY3 : Y ≠ wk := kne iY f2 (by decide)
  have kY4 : Y ≠ E := kne iY iE (by decide)
  have kY5 : Y ≠ D := kne iY iD (by decide)
  have kY6 : Y ≠ ua := kne iY t7' (by decide)
  have kY7 : Y ≠ SO := kne iY iS (by decide)
  have kY8 : Y ≠ J := kne iY iJ (by decide)
  have F : ∀ {q a k : Nat}, ow q = some (a, k) → G.fc q = (if a = na then 1 else if a = ea then 2 else if a = wk then 3 else if a = E then (if k = 5 then 4 else if k = 6 then 5 else if k = 3 then 12 else 13) else if a = D then (if k = 3 then 6 else 14) else if a = ua then 7 else if a = SO then (if k = 6 then 8 else if k = 7 then 9 else if k = 2 then 15 else if k = 3 then 16 else 17) else if a = J then 10 else 11) := fun h => by rw [gf]; unfold fcG; rw [h]
  have hxD : xD G := by
    refine ⟨⟨fun i hi => ?_, fun k hk => ?_, fun k hk => ?_, ?_, ?_, ?_, fun j hj => ?_, ?_, ?_⟩, ⟨fun k h1 h2 => ?_, ?_, ?_, ?_⟩, ⟨?_, ?_, ?_, ?_, ?_, ?_⟩, fun i j hi hj e => ?_, fun i j hi hj e => ?_⟩
    · rw [F (enu i hi).2.2, if_pos rfl]
    · rw [gn] at hk
      rw [F (eee k hk).2.2, if_neg n1, if_pos rfl]
    · rw [gn] at hk
      rw [F (ewe k hk).2.2, if_neg n2', if_neg n3', if_pos rfl]
    · rw [gfa, F o_fa, if_neg kE1, if_neg kE2, if_neg kE3, if_pos rfl]; rfl
    · rw [gpd, F o_pd, if_neg kE1, if_neg kE2, if_neg kE3, if_pos rfl]; rfl
    · rw [gpr, F o_pr, if_neg kD1, if_neg kD2, if_neg kD3, if_neg kD4, if_pos rfl]; rfl
    · rw [gn] at hj
      rw [F (euk j hj).2.2, if_neg n4', if_neg n5', if_neg n6', if_neg kU1, if_neg kU2, if_pos rfl]
    · rw [gpq, F o_pq, if_neg kS1, if_neg kS2, if_neg kS3, if_neg kS4, if_neg kS5, if_neg kS6, if_pos rfl]; rfl
    · rw [gsu, F o_su, if_neg kS1, if_neg kS2, if_neg kS3, if_neg kS4, if_neg kS5, if_neg kS6, if_pos rfl]; rfl
    · rw [F (ej k h1 h2).2.2.1, if_neg kJ1, if_neg kJ2, if_neg kJ3, if_neg kJ4, if_neg kJ5, if_neg kJ6, if_neg kJ7, if_pos rfl]
    · rw [F (show ow G.t1 = _ from ya3), if_neg kY1, if_neg kY2, if_neg kY3, if_neg kY4, if_neg kY5, if_neg kY6, if_neg kY7, if_neg kY8]
    · rw [F (show ow G.t2 = _ from yb3), if_neg kY1, if_neg kY2, if_neg kY3, if_neg kY4, if_neg kY5, if_neg kY6, if_neg kY7, if_neg kY8]
    · rw [F (show ow G.t3 = _ from yc3), if_neg kY1, if_neg kY2, if_neg kY3, if_neg kY4, if_neg kY5, if_neg kY6, if_neg kY7, if_neg kY8]
    · rw [gra, F o_ra, if_neg kE1, if_neg kE2, if_neg kE3, if_pos rfl]; rfl
    · rw [gco, F o_co, if_neg kE1, if_neg kE2, if_neg kE3, if_pos rfl]; rfl
    · rw [goa, F o_oa, if_neg kD1, if_neg kD2, if_neg kD3, if_neg kD4, if_pos rfl]; rfl
    · rw [gc1, F o_c1, if_neg kS1, if_neg kS2, if_neg kS3, if_neg kS4, if_neg kS5, if_neg kS6, if_pos rfl]; rfl
    · rw [gc2, F o_c2, if_neg kS1, if_neg kS2, if_neg kS3, if_neg kS4, if_neg kS5, if_neg kS6, if_pos rfl]; rfl
    · rw [gc3, F o_c3, if_neg kS1, if_neg kS2, if_neg kS3, if_neg kS4, if_neg kS5, if_neg kS6, if_pos rfl]; rfl
    · have := go (enu i hi).2.2 (enu j hj).2.2 e
      injection this
    · rw [gn] at hi hj
      have := go (eee i hi).2.2 (eee j hj).2.2 e
      injection this
  refine ⟨G, gx, gn, ⟨?_, ⟨hC.1.inj, hfS, ?_⟩, ⟨?_, ?_⟩, ⟨?_, ?_, ?_, ?_, ?_⟩, hxD⟩, fun _ => f0, val, ⟨val, fun _ => false, ⟨hC.2.1, fun q hq => (euv q hq).2.2.2.2.2.2.2.2⟩, fun q hq => ⟨?_, f0_ok⟩, fun _ _ => rfl⟩, ⟨?_, ?_, Nat.zero_le _, ?_, ?_, ?_⟩, fun i hi => absurd hi (Nat.not_lt_zero i), fun _ _ _ _ => rfl, ⟨?_, ?_, (fun v hv => nomatch hv)⟩, ⟨?_, ?_, ?_, by decide, by decide⟩, ?_, ?_, fun i hi => absurd hi (Nat.not_lt_zero i), Nat.zero_le _⟩
  · rw [gx, gA, gna, gea, gEE, gD, gSO, gJ, gY]; exact ⟨xi, x1, x2, x3, x4, x5, x6, x7, x8⟩
  · rw [gA]; exact haR
  · rw [gna]; exact ⟨ina, nna, fun i hi => ⟨(enu i hi).1, (enu i hi).2.1⟩⟩
  · rw [gea, gn]; exact ⟨iea, nea, fun i hi => ⟨(eee i hi).1, (eee i hi).2.1⟩⟩
  · rw [gEE, gn, gA, gwk, gra, gco, gfa, gpd]; exact heR
  · rw [gD, gn, gA, goa, gpr]; exact hdR
  · rw [gSO, gn, gA, gc1, gc2, gc3, gua, gpq, gsu]; exact hsR
  · rw [gJ, gA]; exact hjR
  · rw [gY, gA, gba]; exact htR
  · show (false, val (G.uo q), val (G.vo q)) = f0
    rw [(euv q hq).2.2.2.2.2.2.1, (euv q hq).2.2.2.2.2.2.2.1]
  · rw [gx, gn]; exact v0
  · rw [gx]; exact v9
  · rw [gx]; exact v10
  · rw [gEE, gn]; exact eN
  · rw [gD, gn]; exact dN
  · rw [gSO, gn]; exact sN
  · rw [gSO]; exact v8
  · exact (ej 1 (by decide) (by decide)).2.2.2
  · exact (ej 2 (by decide) (by decide)).2.2.2
  · rw [gJ]; exact jv9
  · exact ya4
  · rw [gY]; exact yv5
/-- what the class's objects see to -/
theorem rC.ok {Z : Hz} {G : Ga} {V : Hv} {s : St} (hR : xR Z G) (h : rC Z G V s) : sOk G.n s := by
  obtain ⟨T, X, ⟨val, bel, -, hT, -⟩, ⟨-, -, h40, -⟩, hn, hm, ⟨-, -, hs⟩, ⟨-, -, -, hj1, hj2⟩, -⟩ := h
  obtain ⟨-, -, ⟨⟨-, -, na⟩, ⟨-, -, ea⟩⟩, ⟨-, -, hsR, -, -⟩, -⟩ := hR
  refine ⟨fun i hi => ?_, fun p k hp hk => ?_, fun v hv hv1 j hj => ?_, hj1, hj2⟩
  · rw [← hn i hi]; exact (hT _ (na i (by omega)).2).2
  · rw [← hm p k hp hk]; exact (hT _ (ea _ (idx_lt hp hk)).2).2
  · rw [← (hs v hv).2.2.2.2 hv1 j hj]
    exact (hT _ (hsR.2.1.2.2.2.2.2.2.2.2.2.2 j hj).2).2
