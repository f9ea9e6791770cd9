/-! ===== the law: its cases ===== -/
abbrev mL_law : Mm := (yL_law, cL_law, 7, (Option.some .boolean), RL)
abbrev rL : Room := { frames := 11, cells := 601024, slots := 7293000, locals := 448 }
abbrev lwV (b x m oa i : Nat) : Lv := [some (.ref b), some (.ref x), some (.ref m), some (.ref oa), some (.int (nI i)), none, none]
def LwC (Γ : Gm) (κ : Cx) (Z : Hz) (G : Ga) (a : Nat → Nat) (oa b N : Nat) (xs : Nat → Int32) : Prop := zFx Γ κ mL_law rL ∧ zThr Γ (ks κ) ∧ zSc Γ b N xs (ks κ) ∧ xR Z G ∧ mR Z a ∧ ApM Z G a ∧ zIn Z oa 14 ∧ zn Z oa = 1
def LwI (Z : Hz) (G : Ga) (a : Nat → Nat) (V : Hv) (s : St) : Prop := rC Z G V s ∧ ∃ T L, rMT a V G.n T L s
theorem lw_in {i0 N : Nat} (hi : i0 + 6 < N) (hN : N ≤ 3585) : ∀ j, j ≤ 6 → vp_in (nI i0 + nI j) N := fun j hj => by
  rw [nI_add]
  exact vp_in_nI (by omega) (by omega)
theorem zX_fg {Γ : Gm} {κ : Cx} {S : Hs} {cs sl pc : Nat} {Q : State → Prop} {pre suf : Lv} {o : Option Value} {st : List Value} (h : zX Γ κ S cs sl Q pc (pre ++ none :: suf) st) : zX Γ κ S cs sl Q pc (pre ++ o :: suf) st := fun H locs ls a b c => h H locs ls a b c.forget
theorem lcmp_same (x : Int64) : lg_cmp x x = 0 := (lg_cmp_eq _ _).mpr rfl
section CASES
variable {Γ : Gm} {κ : Cx} {Z : Hz} {G : Ga} {V : Hv} {a : Nat → Nat} {oa b N i0 cs sl : Nat} {xs : Nat → Int32} {s : St} {Q : State → Prop}
set_option maxRecDepth 100000 in
theorem w_value (hPr : prOk) (C : LwC Γ κ Z G a oa b N xs) (I : LwI Z G a V s) (hi : i0 + 6 < N) (hN : N ≤ 3585) (hc : cs + 1 ≤ 601024 ∧ sl + 6 ≤ 7293000) (next : ∀ V' s', LwI Z G a V' s' → zX Γ κ (Z, V') (cs + 1) (sl + 6) Q 1165 (lwV b G.x (a 0) oa i0) []) : zX Γ κ (Z, V) cs sl Q 164 (lwV b G.x (a 0) oa i0) [] := by
  obtain ⟨F, TH, hSc, hR, hM, hAp, ho, hn⟩ := C
  obtain ⟨hC9, T, L, hT⟩ := I
  have hO := hC9.ok hR
  obtain ⟨T0, X0, hC⟩ := hC9
  have hin := lw_in hi hN
  have hf0 : cs + 0 ≤ 601024 ∧ sl + 0 ≤ 7293000 := by omega
  have hf1 : cs + 0 + 0 ≤ 601024 ∧ sl + 0 + 0 ≤ 7293000 := by omega
  refine z_aload_n F dL_law_164 rfl ?_
  refine z_aload_n F dL_law_165 rfl ?_
  refine z_iload F dL_law_166 rfl ?_
  refine z_iconst (v := nI 1) F dL_law_168 (by decide) ?_
  refine z_iadd F dL_law_169 ?_
  refine z_sld F hSc dL_law_170 (hin 1 (by decide)) ?_
  refine z_i2l F dL_law_171 ?_
  refine z_bipush (v := nI 32) F dL_law_172 (by decide) ?_
  refine z_lshl F dL_law_174 ?_
  refine z_aload_n F dL_law_175 rfl ?_
  refine z_iload F dL_law_176 rfl ?_
  refine z_iconst (v := nI 2) F dL_law_178 (by decide) ?_
  refine z_iadd F dL_law_179 ?_
  refine z_sld F hSc dL_law_180 (hin 2 (by decide)) ?_
  refine z_i2l F dL_law_181 ?_
  refine z_ldc2 (v := 4294967295) F dL_law_182 cn_L_33 ?_
  refine z_land F dL_law_185 ?_
  refine z_lor F dL_law_186 ?_
  refine z_aload_n F dL_law_187 rfl ?_
  refine z_iload F dL_law_188 rfl ?_
  refine z_iconst (v := nI 3) F dL_law_190 (by decide) ?_
  refine z_iadd F dL_law_191 ?_
  refine z_sld F hSc dL_law_192 (hin 3 (by decide)) ?_
  refine z_i2l F dL_law_193 ?_
  refine z_bipush (v := nI 32) F dL_law_194 (by decide) ?_
  refine z_lshl F dL_law_196 ?_
  refine z_aload_n F dL_law_197 rfl ?_
  refine z_iload F dL_law_198 rfl ?_
  refine z_iconst (v := nI 4) F dL_law_200 (by decide) ?_
  refine z_iadd F dL_law_201 ?_
  refine z_sld F hSc dL_law_202 (hin 4 (by decide)) ?_
  refine z_i2l F dL_law_203 ?_
  refine z_ldc2 (v := 4294967295) F dL_law_204 cn_L_33 ?_
  refine z_land F dL_law_207 ?_
  refine z_lor F dL_law_208 ?_
  refine z_cVi F (c_value _ _ hR hC) dL_law_209 ml_L_35 ok_X9_value hR.1.1 (by decide) rfl rfl rfl (Nat.le_of_ble_eq_true rfl) (by decide) hf0 (fun r S' hr => ?_)
  obtain ⟨rfl, V1, rfl, hg, h1⟩ := hr
  have hT1 := hT.keep hAp hg
  refine z_aload_n F dL_law_212 rfl ?_
  refine z_aload_n F dL_law_213 rfl ?_
  refine z_iload F dL_law_214 rfl ?_
  refine z_iconst (v := nI 1) F dL_law_216 (by decide) ?_
  refine z_iadd F dL_law_217 ?_
  refine z_sld F hSc dL_law_218 (hin 1 (by decide)) ?_
  refine z_i2l F dL_law_219 ?_
  refine z_bipush (v := nI 32) F dL_law_220 (by decide) ?_
  refine z_lshl F dL_law_222 ?_
  refine z_aload_n F dL_law_223 rfl ?_
  refine z_iload F dL_law_224 rfl ?_
  refine z_iconst (v := nI 2) F dL_law_226 (by decide) ?_
  refine z_iadd F dL_law_227 ?_
  refine z_sld F hSc dL_law_228 (hin 2 (by decide)) ?_
  refine z_i2l F dL_law_229 ?_
  refine z_ldc2 (v := 4294967295) F dL_law_230 cn_L_33 ?_
  refine z_land F dL_law_233 ?_
  refine z_lor F dL_law_234 ?_
  refine z_aload_n F dL_law_235 rfl ?_
  refine z_iload F dL_law_236 rfl ?_
  refine z_iconst (v := nI 3) F dL_law_238 (by decide) ?_
  refine z_iadd F dL_law_239 ?_
  refine z_sld F hSc dL_law_240 (hin 3 (by decide)) ?_
  refine z_i2l F dL_law_241 ?_
  refine z_bipush (v := nI 32) F dL_law_242 (by decide) ?_
  refine z_lshl F dL_law_244 ?_
  refine z_aload_n F dL_law_245 rfl ?_
  refine z_iload F dL_law_246 rfl ?_
  refine z_iconst (v := nI 4) F dL_law_248 (by decide) ?_
  refine z_iadd F dL_law_249 ?_
  refine z_sld F hSc dL_law_250 (hin 4 (by decide)) ?_
  refine z_i2l F dL_law_251 ?_
  refine z_ldc2 (v := 4294967295) F dL_law_252 cn_L_33 ?_
  refine z_land F dL_law_255 ?_
  refine z_lor F dL_law_256 ?_
  refine z_cVi F (m_value _ _ hM hT1) dL_law_257 ml_L_39 ok_X10_value hM.1.1 (by decide) rfl rfl rfl (Nat.le_of_ble_eq_true rfl) (by decide) hf1 (fun r S' hr => ?_)
  obtain ⟨rfl, V2, T2, L2, rfl, hg2, -, h2⟩ := hr
  refine z_icmp_eq (tgt := 1165) F dL_law_260 (by decide) (fun _ => ?_) (fun h => absurd rfl h)
  exact zX_widen (by omega) (by omega) (next V2 _ ⟨h1.keep hAp hR hg2, T2, L2, h2⟩)
set_option maxRecDepth 100000 in
theorem w_act (hPr : prOk) (C : LwC Γ κ Z G a oa b N xs) (I : LwI Z G a V s) (hi : i0 + 6 < N) (hN : N ≤ 3585) (hc : cs + 1 ≤ 601024 ∧ sl + 6 ≤ 7293000) (next : ∀ V' s', LwI Z G a V' s' → zX Γ κ (Z, V') (cs + 1) (sl + 6) Q 1165 (lwV b G.x (a 0) oa i0) []) : zX Γ κ (Z, V) cs sl Q 265 (lwV b G.x (a 0) oa i0) [] := by
  obtain ⟨F, TH, hSc, hR, hM, hAp, ho, hn⟩ := C
  obtain ⟨hC9, T, L, hT⟩ := I
  have hO := hC9.ok hR
  obtain ⟨T0, X0, hC⟩ := hC9
  have hin := lw_in hi hN
  have hf0 : cs + 0 ≤ 601024 ∧ sl + 0 ≤ 7293000 := by omega
  have hf1 : cs + 0 + 0 ≤ 601024 ∧ sl + 0 + 0 ≤ 7293000 := by omega
  refine z_aload_n F dL_law_265 rfl ?_
  refine z_aload_n F dL_law_266 rfl ?_
  refine z_iload F dL_law_267 rfl ?_
  refine z_iconst (v := nI 1) F dL_law_269 (by decide) ?_
  refine z_iadd F dL_law_270 ?_
  refine z_sld F hSc dL_law_271 (hin 1 (by decide)) ?_
  refine z_aload_n F dL_law_272 rfl ?_
  refine z_iload F dL_law_273 rfl ?_
  refine z_iconst (v := nI 2) F dL_law_275 (by decide) ?_
  refine z_iadd F dL_law_276 ?_
  refine z_sld F hSc dL_law_277 (hin 2 (by decide)) ?_
  refine z_aload_n F dL_law_278 rfl ?_
  refine z_iload F dL_law_279 rfl ?_
  refine z_iconst (v := nI 3) F dL_law_281 (by decide) ?_
  refine z_iadd F dL_law_282 ?_
  refine z_sld F hSc dL_law_283 (hin 3 (by decide)) ?_
  refine z_cVi F (c_act _ _ _ hR hC) dL_law_284 ml_L_40 ok_X9_act hR.1.1 (by decide) rfl rfl rfl (Nat.le_of_ble_eq_true rfl) (by decide) hf0 (fun r S' hr => ?_)
  obtain ⟨rfl, V1, rfl, hg, h1⟩ := hr
  have hT1 := hT.keep hAp hg
  refine z_aload_n F dL_law_287 rfl ?_
  refine z_aload_n F dL_law_288 rfl ?_
  refine z_iload F dL_law_289 rfl ?_
  refine z_iconst (v := nI 1) F dL_law_291 (by decide) ?_
  refine z_iadd F dL_law_292 ?_
  refine z_sld F hSc dL_law_293 (hin 1 (by decide)) ?_
  refine z_aload_n F dL_law_294 rfl ?_
  refine z_iload F dL_law_295 rfl ?_
  refine z_iconst (v := nI 2) F dL_law_297 (by decide) ?_
  refine z_iadd F dL_law_298 ?_
  refine z_sld F hSc dL_law_299 (hin 2 (by decide)) ?_
  refine z_aload_n F dL_law_300 rfl ?_
  refine z_iload F dL_law_301 rfl ?_
  refine z_iconst (v := nI 3) F dL_law_303 (by decide) ?_
  refine z_iadd F dL_law_304 ?_
  refine z_sld F hSc dL_law_305 (hin 3 (by decide)) ?_
  refine z_cVi F (m_act _ _ _ hM hT1 hO) dL_law_306 ml_L_43 ok_X10_act hM.1.1 (by decide) rfl rfl rfl (Nat.le_of_ble_eq_true rfl) (by decide) hf1 (fun r S' hr => ?_)
  obtain ⟨rfl, V2, T2, L2, rfl, hg2, -, h2⟩ := hr
  refine z_icmp_eq (tgt := 1165) F dL_law_309 (by decide) (fun _ => ?_) (fun h => absurd rfl h)
  exact zX_widen (by omega) (by omega) (next V2 _ ⟨h1.keep hAp hR hg2, T2, L2, h2⟩)
set_option maxRecDepth 100000 in
theorem w_drop (hPr : prOk) (C : LwC Γ κ Z G a oa b N xs) (I : LwI Z G a V s) (hi : i0 + 6 < N) (hN : N ≤ 3585) (hc : cs + 1 ≤ 601024 ∧ sl + 6 ≤ 7293000) (next : ∀ V' s', LwI Z G a V' s' → zX Γ κ (Z, V') (cs + 1) (sl + 6) Q 1165 (lwV b G.x (a 0) oa i0) []) : zX Γ κ (Z, V) cs sl Q 382 (lwV b G.x (a 0) oa i0) [] := by
  obtain ⟨F, TH, hSc, hR, hM, hAp, ho, hn⟩ := C
  obtain ⟨hC9, T, L, hT⟩ := I
  have hO := hC9.ok hR
  obtain ⟨T0, X0, hC⟩ := hC9
  have hin := lw_in hi hN
  have hf0 : cs + 0 ≤ 601024 ∧ sl + 0 ≤ 7293000 := by omega
  have hf1 : cs + 0 + 0 ≤ 601024 ∧ sl + 0 + 0 ≤ 7293000 := by omega
  refine z_aload_n F dL_law_382 rfl ?_
  refine z_cVi F (c_drop  hR hC) dL_law_383 ml_L_52 ok_X9_drop hR.1.1 (by decide) rfl rfl rfl (Nat.le_of_ble_eq_true rfl) (by decide) hf0 (fun r S' hr => ?_)
  obtain ⟨rfl, V1, rfl, hg, h1⟩ := hr
  have hT1 := hT.keep hAp hg
  refine z_aload_n F dL_law_386 rfl ?_
  refine z_cVi F (m_drop  hM hT1) dL_law_387 ml_L_55 ok_X10_drop hM.1.1 (by decide) rfl rfl rfl (Nat.le_of_ble_eq_true rfl) (by decide) hf1 (fun r S' hr => ?_)
  obtain ⟨rfl, V2, T2, L2, rfl, hg2, -, h2⟩ := hr
  refine z_icmp_eq (tgt := 1165) F dL_law_390 (by decide) (fun _ => ?_) (fun h => absurd rfl h)
  exact zX_widen (by omega) (by omega) (next V2 _ ⟨h1.keep hAp hR hg2, T2, L2, h2⟩)
set_option maxRecDepth 100000 in
theorem w_compare (hPr : prOk) (C : LwC Γ κ Z G a oa b N xs) (I : LwI Z G a V s) (hi : i0 + 6 < N) (hN : N ≤ 3585) (hc : cs + 1 ≤ 601024 ∧ sl + 6 ≤ 7293000) (next : ∀ V' s', LwI Z G a V' s' → zX Γ κ (Z, V') (cs + 1) (sl + 6) Q 1165 (lwV b G.x (a 0) oa i0) []) : zX Γ κ (Z, V) cs sl Q 395 (lwV b G.x (a 0) oa i0) [] := by
  obtain ⟨F, TH, hSc, hR, hM, hAp, ho, hn⟩ := C
  obtain ⟨hC9, T, L, hT⟩ := I
  have hO := hC9.ok hR
  obtain ⟨T0, X0, hC⟩ := hC9
  have hin := lw_in hi hN
  have hf0 : cs + 0 ≤ 601024 ∧ sl + 0 ≤ 7293000 := by omega
  have hf1 : cs + 0 + 0 ≤ 601024 ∧ sl + 0 + 0 ≤ 7293000 := by omega
  refine z_aload_n F dL_law_395 rfl ?_
  refine z_aload_n F dL_law_396 rfl ?_
  refine z_iload F dL_law_397 rfl ?_
  refine z_iconst (v := nI 1) F dL_law_399 (by decide) ?_
  refine z_iadd F dL_law_400 ?_
  refine z_sld F hSc dL_law_401 (hin 1 (by decide)) ?_
  refine z_aload_n F dL_law_402 rfl ?_
  refine z_iload F dL_law_403 rfl ?_
  refine z_iconst (v := nI 2) F dL_law_405 (by decide) ?_
  refine z_iadd F dL_law_406 ?_
  refine z_sld F hSc dL_law_407 (hin 2 (by decide)) ?_
  refine z_cVi F (c_compare _ _ hR hC) dL_law_408 ml_L_56 ok_X9_compare hR.1.1 (by decide) rfl rfl rfl (Nat.le_of_ble_eq_true rfl) (by decide) hf0 (fun r S' hr => ?_)
  obtain ⟨rfl, V1, rfl, hg, h1⟩ := hr
  have hT1 := hT.keep hAp hg
  refine z_aload_n F dL_law_411 rfl ?_
  refine z_aload_n F dL_law_412 rfl ?_
  refine z_iload F dL_law_413 rfl ?_
  refine z_iconst (v := nI 1) F dL_law_415 (by decide) ?_
  refine z_iadd F dL_law_416 ?_
  refine z_sld F hSc dL_law_417 (hin 1 (by decide)) ?_
  refine z_aload_n F dL_law_418 rfl ?_
  refine z_iload F dL_law_419 rfl ?_
  refine z_iconst (v := nI 2) F dL_law_421 (by decide) ?_
  refine z_iadd F dL_law_422 ?_
  refine z_sld F hSc dL_law_423 (hin 2 (by decide)) ?_
  refine z_cVi F (m_compare _ _ hM hT1 hO) dL_law_424 ml_L_59 ok_X10_compare hM.1.1 (by decide) rfl rfl rfl (Nat.le_of_ble_eq_true rfl) (by decide) hf1 (fun r S' hr => ?_)
  obtain ⟨rfl, V2, T2, L2, rfl, hg2, -, h2⟩ := hr
  refine z_icmp_eq (tgt := 1165) F dL_law_427 (by decide) (fun _ => ?_) (fun h => absurd rfl h)
  exact zX_widen (by omega) (by omega) (next V2 _ ⟨h1.keep hAp hR hg2, T2, L2, h2⟩)
set_option maxRecDepth 100000 in
theorem w_about (hPr : prOk) (C : LwC Γ κ Z G a oa b N xs) (I : LwI Z G a V s) (hi : i0 + 6 < N) (hN : N ≤ 3585) (hc : cs + 1 ≤ 601024 ∧ sl + 6 ≤ 7293000) (next : ∀ V' s', LwI Z G a V' s' → zX Γ κ (Z, V') (cs + 1) (sl + 6) Q 1165 (lwV b G.x (a 0) oa i0) []) : zX Γ κ (Z, V) cs sl Q 432 (lwV b G.x (a 0) oa i0) [] := by
  obtain ⟨F, TH, hSc, hR, hM, hAp, ho, hn⟩ := C
  obtain ⟨hC9, T, L, hT⟩ := I
  have hO := hC9.ok hR
  obtain ⟨T0, X0, hC⟩ := hC9
  have hin := lw_in hi hN
  have hf0 : cs + 0 ≤ 601024 ∧ sl + 0 ≤ 7293000 := by omega
  have hf1 : cs + 0 + 0 ≤ 601024 ∧ sl + 0 + 0 ≤ 7293000 := by omega
  refine z_aload_n F dL_law_432 rfl ?_
  refine z_aload_n F dL_law_433 rfl ?_
  refine z_iload F dL_law_434 rfl ?_
  refine z_iconst (v := nI 1) F dL_law_436 (by decide) ?_
  refine z_iadd F dL_law_437 ?_
  refine z_sld F hSc dL_law_438 (hin 1 (by decide)) ?_
  refine z_aload_n F dL_law_439 rfl ?_
  refine z_iload F dL_law_440 rfl ?_
  refine z_iconst (v := nI 2) F dL_law_442 (by decide) ?_
  refine z_iadd F dL_law_443 ?_
  refine z_sld F hSc dL_law_444 (hin 2 (by decide)) ?_
  refine z_cVi F (c_about _ _ hR hC) dL_law_445 ml_L_60 ok_X9_about hR.1.1 (by decide) rfl rfl rfl (Nat.le_of_ble_eq_true rfl) (by decide) hf0 (fun r S' hr => ?_)
  obtain ⟨rfl, V1, rfl, hg, h1⟩ := hr
  have hT1 := hT.keep hAp hg
  refine z_aload_n F dL_law_448 rfl ?_
  refine z_aload_n F dL_law_449 rfl ?_
  refine z_iload F dL_law_450 rfl ?_
  refine z_iconst (v := nI 1) F dL_law_452 (by decide) ?_
  refine z_iadd F dL_law_453 ?_
  refine z_sld F hSc dL_law_454 (hin 1 (by decide)) ?_
  refine z_aload_n F dL_law_455 rfl ?_
  refine z_iload F dL_law_456 rfl ?_
  refine z_iconst (v := nI 2) F dL_law_458 (by decide) ?_
  refine z_iadd F dL_law_459 ?_
  refine z_sld F hSc dL_law_460 (hin 2 (by decide)) ?_
  refine z_cVi F (m_about _ _ hM hT1 hO) dL_law_461 ml_L_63 ok_X10_about hM.1.1 (by decide) rfl rfl rfl (Nat.le_of_ble_eq_true rfl) (by decide) hf1 (fun r S' hr => ?_)
  obtain ⟨rfl, V2, T2, L2, rfl, hg2, -, h2⟩ := hr
  refine z_icmp_eq (tgt := 1165) F dL_law_464 (by decide) (fun _ => ?_) (fun h => absurd rfl h)
  exact zX_widen (by omega) (by omega) (next V2 _ ⟨h1.keep hAp hR hg2, T2, L2, h2⟩)
set_option maxRecDepth 100000 in
theorem w_entry (hPr : prOk) (C : LwC Γ κ Z G a oa b N xs) (I : LwI Z G a V s) (hi : i0 + 6 < N) (hN : N ≤ 3585) (hc : cs + 1 ≤ 601024 ∧ sl + 6 ≤ 7293000) (next : ∀ V' s', LwI Z G a V' s' → zX Γ κ (Z, V') (cs + 1) (sl + 6) Q 1165 (lwV b G.x (a 0) oa i0) []) : zX Γ κ (Z, V) cs sl Q 549 (lwV b G.x (a 0) oa i0) [] := by
  obtain ⟨F, TH, hSc, hR, hM, hAp, ho, hn⟩ := C
  obtain ⟨hC9, T, L, hT⟩ := I
  have hO := hC9.ok hR
  obtain ⟨T0, X0, hC⟩ := hC9
  have hin := lw_in hi hN
  have hf0 : cs + 0 ≤ 601024 ∧ sl + 0 ≤ 7293000 := by omega
  have hf1 : cs + 0 + 0 ≤ 601024 ∧ sl + 0 + 0 ≤ 7293000 := by omega
  refine z_aload_n F dL_law_549 rfl ?_
  refine z_aload_n F dL_law_550 rfl ?_
  refine z_iload F dL_law_551 rfl ?_
  refine z_iconst (v := nI 1) F dL_law_553 (by decide) ?_
  refine z_iadd F dL_law_554 ?_
  refine z_sld F hSc dL_law_555 (hin 1 (by decide)) ?_
  refine z_aload_n F dL_law_556 rfl ?_
  refine z_iload F dL_law_557 rfl ?_
  refine z_iconst (v := nI 2) F dL_law_559 (by decide) ?_
  refine z_iadd F dL_law_560 ?_
  refine z_sld F hSc dL_law_561 (hin 2 (by decide)) ?_
  refine z_aload_n F dL_law_562 rfl ?_
  refine z_iload F dL_law_563 rfl ?_
  refine z_iconst (v := nI 3) F dL_law_565 (by decide) ?_
  refine z_iadd F dL_law_566 ?_
  refine z_sld F hSc dL_law_567 (hin 3 (by decide)) ?_
  refine z_i2l F dL_law_568 ?_
  refine z_bipush (v := nI 32) F dL_law_569 (by decide) ?_
  refine z_lshl F dL_law_571 ?_
  refine z_aload_n F dL_law_572 rfl ?_
  refine z_iload F dL_law_573 rfl ?_
  refine z_iconst (v := nI 4) F dL_law_575 (by decide) ?_
  refine z_iadd F dL_law_576 ?_
  refine z_sld F hSc dL_law_577 (hin 4 (by decide)) ?_
  refine z_i2l F dL_law_578 ?_
  refine z_ldc2 (v := 4294967295) F dL_law_579 cn_L_33 ?_
  refine z_land F dL_law_582 ?_
  refine z_lor F dL_law_583 ?_
  refine z_aload_n F dL_law_584 rfl ?_
  refine z_iload F dL_law_585 rfl ?_
  refine z_iconst (v := nI 5) F dL_law_587 (by decide) ?_
  refine z_iadd F dL_law_588 ?_
  refine z_sld F hSc dL_law_589 (hin 5 (by decide)) ?_
  refine z_i2l F dL_law_590 ?_
  refine z_bipush (v := nI 32) F dL_law_591 (by decide) ?_
  refine z_lshl F dL_law_593 ?_
  refine z_aload_n F dL_law_594 rfl ?_
  refine z_iload F dL_law_595 rfl ?_
  refine z_bipush (v := nI 6) F dL_law_597 (by decide) ?_
  refine z_iadd F dL_law_599 ?_
  refine z_sld F hSc dL_law_600 (hin 6 (by decide)) ?_
  refine z_i2l F dL_law_601 ?_
  refine z_ldc2 (v := 4294967295) F dL_law_602 cn_L_33 ?_
  refine z_land F dL_law_605 ?_
  refine z_lor F dL_law_606 ?_
  refine z_cVi F (c_entry _ _ _ _ hR hC) dL_law_607 ml_L_68 ok_X9_entry hR.1.1 (by decide) rfl rfl rfl (Nat.le_of_ble_eq_true rfl) (by decide) hf0 (fun r S' hr => ?_)
  obtain ⟨rfl, V1, rfl, hg, h1⟩ := hr
  have hT1 := hT.keep hAp hg
  refine z_aload_n F dL_law_610 rfl ?_
  refine z_aload_n F dL_law_611 rfl ?_
  refine z_iload F dL_law_612 rfl ?_
  refine z_iconst (v := nI 1) F dL_law_614 (by decide) ?_
  refine z_iadd F dL_law_615 ?_
  refine z_sld F hSc dL_law_616 (hin 1 (by decide)) ?_
  refine z_aload_n F dL_law_617 rfl ?_
  refine z_iload F dL_law_618 rfl ?_
  refine z_iconst (v := nI 2) F dL_law_620 (by decide) ?_
  refine z_iadd F dL_law_621 ?_
  refine z_sld F hSc dL_law_622 (hin 2 (by decide)) ?_
  refine z_aload_n F dL_law_623 rfl ?_
  refine z_iload F dL_law_624 rfl ?_
  refine z_iconst (v := nI 3) F dL_law_626 (by decide) ?_
  refine z_iadd F dL_law_627 ?_
  refine z_sld F hSc dL_law_628 (hin 3 (by decide)) ?_
  refine z_i2l F dL_law_629 ?_
  refine z_bipush (v := nI 32) F dL_law_630 (by decide) ?_
  refine z_lshl F dL_law_632 ?_
  refine z_aload_n F dL_law_633 rfl ?_
  refine z_iload F dL_law_634 rfl ?_
  refine z_iconst (v := nI 4) F dL_law_636 (by decide) ?_
  refine z_iadd F dL_law_637 ?_
  refine z_sld F hSc dL_law_638 (hin 4 (by decide)) ?_
  refine z_i2l F dL_law_639 ?_
  refine z_ldc2 (v := 4294967295) F dL_law_640 cn_L_33 ?_
  refine z_land F dL_law_643 ?_
  refine z_lor F dL_law_644 ?_
  refine z_aload_n F dL_law_645 rfl ?_
  refine z_iload F dL_law_646 rfl ?_
  refine z_iconst (v := nI 5) F dL_law_648 (by decide) ?_
  refine z_iadd F dL_law_649 ?_
  refine z_sld F hSc dL_law_650 (hin 5 (by decide)) ?_
  refine z_i2l F dL_law_651 ?_
  refine z_bipush (v := nI 32) F dL_law_652 (by decide) ?_
  refine z_lshl F dL_law_654 ?_
  refine z_aload_n F dL_law_655 rfl ?_
  refine z_iload F dL_law_656 rfl ?_
  refine z_bipush (v := nI 6) F dL_law_658 (by decide) ?_
  refine z_iadd F dL_law_660 ?_
  refine z_sld F hSc dL_law_661 (hin 6 (by decide)) ?_
  refine z_i2l F dL_law_662 ?_
  refine z_ldc2 (v := 4294967295) F dL_law_663 cn_L_33 ?_
  refine z_land F dL_law_666 ?_
  refine z_lor F dL_law_667 ?_
  refine z_cVi F (m_entry _ _ _ _ hM hT1) dL_law_668 ml_L_72 ok_X10_entry hM.1.1 (by decide) rfl rfl rfl (Nat.le_of_ble_eq_true rfl) (by decide) hf1 (fun r S' hr => ?_)
  obtain ⟨rfl, V2, T2, L2, rfl, hg2, -, h2⟩ := hr
  refine z_icmp_eq (tgt := 1165) F dL_law_671 (by decide) (fun _ => ?_) (fun h => absurd rfl h)
  exact zX_widen (by omega) (by omega) (next V2 _ ⟨h1.keep hAp hR hg2, T2, L2, h2⟩)
set_option maxRecDepth 100000 in
theorem w_put (hPr : prOk) (C : LwC Γ κ Z G a oa b N xs) (I : LwI Z G a V s) (hi : i0 + 6 < N) (hN : N ≤ 3585) (hc : cs + 1 ≤ 601024 ∧ sl + 6 ≤ 7293000) (next : ∀ V' s', LwI Z G a V' s' → zX Γ κ (Z, V') (cs + 1) (sl + 6) Q 1165 (lwV b G.x (a 0) oa i0) []) : zX Γ κ (Z, V) cs sl Q 676 (lwV b G.x (a 0) oa i0) [] := by
  obtain ⟨F, TH, hSc, hR, hM, hAp, ho, hn⟩ := C
  obtain ⟨hC9, T, L, hT⟩ := I
  have hO := hC9.ok hR
  obtain ⟨T0, X0, hC⟩ := hC9
  have hin := lw_in hi hN
  have hf0 : cs + 0 ≤ 601024 ∧ sl + 0 ≤ 7293000 := by omega
  have hf1 : cs + 0 + 0 ≤ 601024 ∧ sl + 0 + 0 ≤ 7293000 := by omega
  refine z_aload_n F dL_law_676 rfl ?_
  refine z_aload_n F dL_law_677 rfl ?_
  refine z_iload F dL_law_678 rfl ?_
  refine z_iconst (v := nI 1) F dL_law_680 (by decide) ?_
  refine z_iadd F dL_law_681 ?_
  refine z_sld F hSc dL_law_682 (hin 1 (by decide)) ?_
  refine z_aload_n F dL_law_683 rfl ?_
  refine z_iload F dL_law_684 rfl ?_
  refine z_iconst (v := nI 2) F dL_law_686 (by decide) ?_
  refine z_iadd F dL_law_687 ?_
  refine z_sld F hSc dL_law_688 (hin 2 (by decide)) ?_
  refine z_aload_n F dL_law_689 rfl ?_
  refine z_iload F dL_law_690 rfl ?_
  refine z_iconst (v := nI 3) F dL_law_692 (by decide) ?_
  refine z_iadd F dL_law_693 ?_
  refine z_sld F hSc dL_law_694 (hin 3 (by decide)) ?_
  refine z_cVi F (c_put _ _ _ hR hC) dL_law_695 ml_L_73 ok_X9_put hR.1.1 (by decide) rfl rfl rfl (Nat.le_of_ble_eq_true rfl) (by decide) hf0 (fun r S' hr => ?_)
  obtain ⟨rfl, V1, rfl, hg, h1⟩ := hr
  have hT1 := hT.keep hAp hg
  refine z_aload_n F dL_law_698 rfl ?_
  refine z_aload_n F dL_law_699 rfl ?_
  refine z_iload F dL_law_700 rfl ?_
  refine z_iconst (v := nI 1) F dL_law_702 (by decide) ?_
  refine z_iadd F dL_law_703 ?_
  refine z_sld F hSc dL_law_704 (hin 1 (by decide)) ?_
  refine z_aload_n F dL_law_705 rfl ?_
  refine z_iload F dL_law_706 rfl ?_
  refine z_iconst (v := nI 2) F dL_law_708 (by decide) ?_
  refine z_iadd F dL_law_709 ?_
  refine z_sld F hSc dL_law_710 (hin 2 (by decide)) ?_
  refine z_aload_n F dL_law_711 rfl ?_
  refine z_iload F dL_law_712 rfl ?_
  refine z_iconst (v := nI 3) F dL_law_714 (by decide) ?_
  refine z_iadd F dL_law_715 ?_
  refine z_sld F hSc dL_law_716 (hin 3 (by decide)) ?_
  refine z_cVi F (m_put _ _ _ hM hT1) dL_law_717 ml_L_76 ok_X10_put hM.1.1 (by decide) rfl rfl rfl (Nat.le_of_ble_eq_true rfl) (by decide) hf1 (fun r S' hr => ?_)
  obtain ⟨rfl, V2, T2, L2, rfl, hg2, -, h2⟩ := hr
  refine z_icmp_eq (tgt := 1165) F dL_law_720 (by decide) (fun _ => ?_) (fun h => absurd rfl h)
  exact zX_widen (by omega) (by omega) (next V2 _ ⟨h1.keep hAp hR hg2, T2, L2, h2⟩)
set_option maxRecDepth 100000 in
theorem w_take (hPr : prOk) (C : LwC Γ κ Z G a oa b N xs) (I : LwI Z G a V s) (hi : i0 + 6 < N) (hN : N ≤ 3585) (hc : cs + 1 ≤ 601024 ∧ sl + 6 ≤ 7293000) (next : ∀ V' s', LwI Z G a V' s' → zX Γ κ (Z, V') (cs + 1) (sl + 6) Q 1165 (lwV b G.x (a 0) oa i0) []) : zX Γ κ (Z, V) cs sl Q 725 (lwV b G.x (a 0) oa i0) [] := by
  obtain ⟨F, TH, hSc, hR, hM, hAp, ho, hn⟩ := C
  obtain ⟨hC9, T, L, hT⟩ := I
  have hO := hC9.ok hR
  obtain ⟨T0, X0, hC⟩ := hC9
  have hin := lw_in hi hN
  have hf0 : cs + 0 ≤ 601024 ∧ sl + 0 ≤ 7293000 := by omega
  have hf1 : cs + 0 + 0 ≤ 601024 ∧ sl + 0 + 0 ≤ 7293000 := by omega
  refine z_aload_n F dL_law_725 rfl ?_
  refine z_aload_n F dL_law_726 rfl ?_
  refine z_iload F dL_law_727 rfl ?_
  refine z_iconst (v := nI 1) F dL_law_729 (by decide) ?_
  refine z_iadd F dL_law_730 ?_
  refine z_sld F hSc dL_law_731 (hin 1 (by decide)) ?_
  refine z_aload_n F dL_law_732 rfl ?_
  refine z_iload F dL_law_733 rfl ?_
  refine z_iconst (v := nI 2) F dL_law_735 (by decide) ?_
  refine z_iadd F dL_law_736 ?_
  refine z_sld F hSc dL_law_737 (hin 2 (by decide)) ?_
  refine z_cVi F (c_take _ _ hR hC) dL_law_738 ml_L_77 ok_X9_take hR.1.1 (by decide) rfl rfl rfl (Nat.le_of_ble_eq_true rfl) (by decide) hf0 (fun r S' hr => ?_)
  obtain ⟨rfl, V1, rfl, hg, h1⟩ := hr
  have hT1 := hT.keep hAp hg
  refine z_aload_n F dL_law_741 rfl ?_
  refine z_aload_n F dL_law_742 rfl ?_
  refine z_iload F dL_law_743 rfl ?_
  refine z_iconst (v := nI 1) F dL_law_745 (by decide) ?_
  refine z_iadd F dL_law_746 ?_
  refine z_sld F hSc dL_law_747 (hin 1 (by decide)) ?_
  refine z_aload_n F dL_law_748 rfl ?_
  refine z_iload F dL_law_749 rfl ?_
  refine z_iconst (v := nI 2) F dL_law_751 (by decide) ?_
  refine z_iadd F dL_law_752 ?_
  refine z_sld F hSc dL_law_753 (hin 2 (by decide)) ?_
  refine z_cVi F (m_take _ _ hM hT1) dL_law_754 ml_L_80 ok_X10_take hM.1.1 (by decide) rfl rfl rfl (Nat.le_of_ble_eq_true rfl) (by decide) hf1 (fun r S' hr => ?_)
  obtain ⟨rfl, V2, T2, L2, rfl, hg2, -, h2⟩ := hr
  refine z_icmp_eq (tgt := 1165) F dL_law_757 (by decide) (fun _ => ?_) (fun h => absurd rfl h)
  exact zX_widen (by omega) (by omega) (next V2 _ ⟨h1.keep hAp hR hg2, T2, L2, h2⟩)
set_option maxRecDepth 100000 in
theorem w_solve (hPr : prOk) (C : LwC Γ κ Z G a oa b N xs) (I : LwI Z G a V s) (hi : i0 + 6 < N) (hN : N ≤ 3585) (hc : cs + 1 ≤ 601024 ∧ sl + 6 ≤ 7293000) (next : ∀ V' s', LwI Z G a V' s' → zX Γ κ (Z, V') (cs + 1) (sl + 6) Q 1165 (lwV b G.x (a 0) oa i0) []) : zX Γ κ (Z, V) cs sl Q 762 (lwV b G.x (a 0) oa i0) [] := by
  obtain ⟨F, TH, hSc, hR, hM, hAp, ho, hn⟩ := C
  obtain ⟨hC9, T, L, hT⟩ := I
  have hO := hC9.ok hR
  obtain ⟨T0, X0, hC⟩ := hC9
  have hin := lw_in hi hN
  have hf0 : cs + 0 ≤ 601024 ∧ sl + 0 ≤ 7293000 := by omega
  have hf1 : cs + 0 + 0 ≤ 601024 ∧ sl + 0 + 0 ≤ 7293000 := by omega
  refine z_aload_n F dL_law_762 rfl ?_
  refine z_aload_n F dL_law_763 rfl ?_
  refine z_iload F dL_law_764 rfl ?_
  refine z_iconst (v := nI 1) F dL_law_766 (by decide) ?_
  refine z_iadd F dL_law_767 ?_
  refine z_sld F hSc dL_law_768 (hin 1 (by decide)) ?_
  refine z_cVi F (c_solve _ hR hC) dL_law_769 ml_L_81 ok_X9_solve hR.1.1 (by decide) rfl rfl rfl (Nat.le_of_ble_eq_true rfl) (by decide) hf0 (fun r S' hr => ?_)
  obtain ⟨rfl, V1, rfl, hg, h1⟩ := hr
  have hT1 := hT.keep hAp hg
  refine z_aload_n F dL_law_772 rfl ?_
  refine z_aload_n F dL_law_773 rfl ?_
  refine z_iload F dL_law_774 rfl ?_
  refine z_iconst (v := nI 1) F dL_law_776 (by decide) ?_
  refine z_iadd F dL_law_777 ?_
  refine z_sld F hSc dL_law_778 (hin 1 (by decide)) ?_
  refine z_cVi F (m_solve _ hM hT1 hO) dL_law_779 ml_L_85 ok_X10_solve hM.1.1 (by decide) rfl rfl rfl (Nat.le_of_ble_eq_true rfl) (by decide) hf1 (fun r S' hr => ?_)
  obtain ⟨rfl, V2, T2, L2, rfl, hg2, -, h2⟩ := hr
  refine z_icmp_eq (tgt := 1165) F dL_law_782 (by decide) (fun _ => ?_) (fun h => absurd rfl h)
  exact zX_widen (by omega) (by omega) (next V2 _ ⟨h1.keep hAp hR hg2, T2, L2, h2⟩)
set_option maxRecDepth 100000 in
theorem w_answers (hPr : prOk) (C : LwC Γ κ Z G a oa b N xs) (I : LwI Z G a V s) (hi : i0 + 6 < N) (hN : N ≤ 3585) (hc : cs + 1 ≤ 601024 ∧ sl + 6 ≤ 7293000) (next : ∀ V' s', LwI Z G a V' s' → zX Γ κ (Z, V') (cs + 1) (sl + 6) Q 1165 (lwV b G.x (a 0) oa i0) []) : zX Γ κ (Z, V) cs sl Q 787 (lwV b G.x (a 0) oa i0) [] := by
  obtain ⟨F, TH, hSc, hR, hM, hAp, ho, hn⟩ := C
  obtain ⟨hC9, T, L, hT⟩ := I
  have hO := hC9.ok hR
  obtain ⟨T0, X0, hC⟩ := hC9
  have hin := lw_in hi hN
  have hf0 : cs + 0 ≤ 601024 ∧ sl + 0 ≤ 7293000 := by omega
  have hf1 : cs + 0 + 0 ≤ 601024 ∧ sl + 0 + 0 ≤ 7293000 := by omega
  refine z_aload_n F dL_law_787 rfl ?_
  refine z_cVi F (c_answers  hR hC) dL_law_788 ml_L_86 ok_X9_answers hR.1.1 (by decide) rfl rfl rfl (Nat.le_of_ble_eq_true rfl) (by decide) hf0 (fun r S' hr => ?_)
  obtain ⟨rfl, V1, rfl, hg, h1⟩ := hr
  have hT1 := hT.keep hAp hg
  refine z_aload_n F dL_law_791 rfl ?_
  refine z_cVi F (m_answers  hM hT1) dL_law_792 ml_L_89 ok_X10_answers hM.1.1 (by decide) rfl rfl rfl (Nat.le_of_ble_eq_true rfl) (by decide) hf1 (fun r S' hr => ?_)
  obtain ⟨rfl, V2, T2, L2, rfl, hg2, -, h2⟩ := hr
  refine z_icmp_eq (tgt := 1165) F dL_law_795 (by decide) (fun _ => ?_) (fun h => absurd rfl h)
  exact zX_widen (by omega) (by omega) (next V2 _ ⟨h1.keep hAp hR hg2, T2, L2, h2⟩)
set_option maxRecDepth 100000 in
theorem w_unknown (hPr : prOk) (C : LwC Γ κ Z G a oa b N xs) (I : LwI Z G a V s) (hi : i0 + 6 < N) (hN : N ≤ 3585) (hc : cs + 1 ≤ 601024 ∧ sl + 6 ≤ 7293000) (next : ∀ V' s', LwI Z G a V' s' → zX Γ κ (Z, V') (cs + 1) (sl + 6) Q 1165 (lwV b G.x (a 0) oa i0) []) : zX Γ κ (Z, V) cs sl Q 800 (lwV b G.x (a 0) oa i0) [] := by
  obtain ⟨F, TH, hSc, hR, hM, hAp, ho, hn⟩ := C
  obtain ⟨hC9, T, L, hT⟩ := I
  have hO := hC9.ok hR
  obtain ⟨T0, X0, hC⟩ := hC9
  have hin := lw_in hi hN
  have hf0 : cs + 0 ≤ 601024 ∧ sl + 0 ≤ 7293000 := by omega
  have hf1 : cs + 0 + 0 ≤ 601024 ∧ sl + 0 + 0 ≤ 7293000 := by omega
  refine z_aload_n F dL_law_800 rfl ?_
  refine z_aload_n F dL_law_801 rfl ?_
  refine z_iload F dL_law_802 rfl ?_
  refine z_iconst (v := nI 1) F dL_law_804 (by decide) ?_
  refine z_iadd F dL_law_805 ?_
  refine z_sld F hSc dL_law_806 (hin 1 (by decide)) ?_
  refine z_cVi F (c_unknown _ hR hC) dL_law_807 ml_L_90 ok_X9_unknown hR.1.1 (by decide) rfl rfl rfl (Nat.le_of_ble_eq_true rfl) (by decide) hf0 (fun r S' hr => ?_)
  obtain ⟨rfl, V1, rfl, hg, h1⟩ := hr
  have hT1 := hT.keep hAp hg
  refine z_aload_n F dL_law_810 rfl ?_
  refine z_aload_n F dL_law_811 rfl ?_
  refine z_iload F dL_law_812 rfl ?_
  refine z_iconst (v := nI 1) F dL_law_814 (by decide) ?_
  refine z_iadd F dL_law_815 ?_
  refine z_sld F hSc dL_law_816 (hin 1 (by decide)) ?_
  refine z_cVi F (m_unknown _ hM hT1) dL_law_817 ml_L_93 ok_X10_unknown hM.1.1 (by decide) rfl rfl rfl (Nat.le_of_ble_eq_true rfl) (by decide) hf1 (fun r S' hr => ?_)
  obtain ⟨rfl, V2, T2, L2, rfl, hg2, -, h2⟩ := hr
  refine z_icmp_eq (tgt := 1165) F dL_law_820 (by decide) (fun _ => ?_) (fun h => absurd rfl h)
  exact zX_widen (by omega) (by omega) (next V2 _ ⟨h1.keep hAp hR hg2, T2, L2, h2⟩)
set_option maxRecDepth 100000 in
theorem w_pivot (hPr : prOk) (C : LwC Γ κ Z G a oa b N xs) (I : LwI Z G a V s) (hi : i0 + 6 < N) (hN : N ≤ 3585) (hc : cs + 1 ≤ 601024 ∧ sl + 6 ≤ 7293000) (next : ∀ V' s', LwI Z G a V' s' → zX Γ κ (Z, V') (cs + 1) (sl + 6) Q 1165 (lwV b G.x (a 0) oa i0) []) : zX Γ κ (Z, V) cs sl Q 825 (lwV b G.x (a 0) oa i0) [] := by
  obtain ⟨F, TH, hSc, hR, hM, hAp, ho, hn⟩ := C
  obtain ⟨hC9, T, L, hT⟩ := I
  have hO := hC9.ok hR
  obtain ⟨T0, X0, hC⟩ := hC9
  have hin := lw_in hi hN
  have hf0 : cs + 0 ≤ 601024 ∧ sl + 0 ≤ 7293000 := by omega
  have hf1 : cs + 0 + 0 ≤ 601024 ∧ sl + 0 + 0 ≤ 7293000 := by omega
  refine z_aload_n F dL_law_825 rfl ?_
  refine z_aload_n F dL_law_826 rfl ?_
  refine z_iload F dL_law_827 rfl ?_
  refine z_iconst (v := nI 1) F dL_law_829 (by decide) ?_
  refine z_iadd F dL_law_830 ?_
  refine z_sld F hSc dL_law_831 (hin 1 (by decide)) ?_
  refine z_aload_n F dL_law_832 rfl ?_
  refine z_iload F dL_law_833 rfl ?_
  refine z_iconst (v := nI 2) F dL_law_835 (by decide) ?_
  refine z_iadd F dL_law_836 ?_
  refine z_sld F hSc dL_law_837 (hin 2 (by decide)) ?_
  refine z_cVi F (c_pivot _ _ hR hC) dL_law_838 ml_L_94 ok_X9_pivot hR.1.1 (by decide) rfl rfl rfl (Nat.le_of_ble_eq_true rfl) (by decide) hf0 (fun r S' hr => ?_)
  obtain ⟨rfl, V1, rfl, hg, h1⟩ := hr
  have hT1 := hT.keep hAp hg
  refine z_aload_n F dL_law_841 rfl ?_
  refine z_aload_n F dL_law_842 rfl ?_
  refine z_iload F dL_law_843 rfl ?_
  refine z_iconst (v := nI 1) F dL_law_845 (by decide) ?_
  refine z_iadd F dL_law_846 ?_
  refine z_sld F hSc dL_law_847 (hin 1 (by decide)) ?_
  refine z_aload_n F dL_law_848 rfl ?_
  refine z_iload F dL_law_849 rfl ?_
  refine z_iconst (v := nI 2) F dL_law_851 (by decide) ?_
  refine z_iadd F dL_law_852 ?_
  refine z_sld F hSc dL_law_853 (hin 2 (by decide)) ?_
  refine z_cVi F (m_pivot _ _ hM hT1) dL_law_854 ml_L_97 ok_X10_pivot hM.1.1 (by decide) rfl rfl rfl (Nat.le_of_ble_eq_true rfl) (by decide) hf1 (fun r S' hr => ?_)
  obtain ⟨rfl, V2, T2, L2, rfl, hg2, -, h2⟩ := hr
  refine z_icmp_eq (tgt := 1165) F dL_law_857 (by decide) (fun _ => ?_) (fun h => absurd rfl h)
  exact zX_widen (by omega) (by omega) (next V2 _ ⟨h1.keep hAp hR hg2, T2, L2, h2⟩)
set_option maxRecDepth 100000 in
theorem w_holds (hPr : prOk) (C : LwC Γ κ Z G a oa b N xs) (I : LwI Z G a V s) (hi : i0 + 6 < N) (hN : N ≤ 3585) (hc : cs + 1 ≤ 601024 ∧ sl + 6 ≤ 7293000) (next : ∀ V' s', LwI Z G a V' s' → zX Γ κ (Z, V') (cs + 1) (sl + 6) Q 1165 (lwV b G.x (a 0) oa i0) []) : zX Γ κ (Z, V) cs sl Q 862 (lwV b G.x (a 0) oa i0) [] := by
  obtain ⟨F, TH, hSc, hR, hM, hAp, ho, hn⟩ := C
  obtain ⟨hC9, T, L, hT⟩ := I
  have hO := hC9.ok hR
  obtain ⟨T0, X0, hC⟩ := hC9
  have hin := lw_in hi hN
  have hf0 : cs + 0 ≤ 601024 ∧ sl + 0 ≤ 7293000 := by omega
  have hf1 : cs + 0 + 0 ≤ 601024 ∧ sl + 0 + 0 ≤ 7293000 := by omega
  refine z_aload_n F dL_law_862 rfl ?_
  refine z_aload_n F dL_law_863 rfl ?_
  refine z_iload F dL_law_864 rfl ?_
  refine z_iconst (v := nI 1) F dL_law_866 (by decide) ?_
  refine z_iadd F dL_law_867 ?_
  refine z_sld F hSc dL_law_868 (hin 1 (by decide)) ?_
  refine z_cVi F (c_holds _ hR hC) dL_law_869 ml_L_98 ok_X9_holds hR.1.1 (by decide) rfl rfl rfl (Nat.le_of_ble_eq_true rfl) (by decide) hf0 (fun r S' hr => ?_)
  obtain ⟨rfl, V1, rfl, hg, h1⟩ := hr
  have hT1 := hT.keep hAp hg
  refine z_aload_n F dL_law_872 rfl ?_
  refine z_aload_n F dL_law_873 rfl ?_
  refine z_iload F dL_law_874 rfl ?_
  refine z_iconst (v := nI 1) F dL_law_876 (by decide) ?_
  refine z_iadd F dL_law_877 ?_
  refine z_sld F hSc dL_law_878 (hin 1 (by decide)) ?_
  refine z_cVi F (m_holds _ hM hT1 hO) dL_law_879 ml_L_101 ok_X10_holds hM.1.1 (by decide) rfl rfl rfl (Nat.le_of_ble_eq_true rfl) (by decide) hf1 (fun r S' hr => ?_)
  obtain ⟨rfl, V2, T2, L2, rfl, hg2, -, h2⟩ := hr
  refine z_icmp_eq (tgt := 1165) F dL_law_882 (by decide) (fun _ => ?_) (fun h => absurd rfl h)
  exact zX_widen (by omega) (by omega) (next V2 _ ⟨h1.keep hAp hR hg2, T2, L2, h2⟩)
set_option maxRecDepth 100000 in
theorem w_determinant (hPr : prOk) (C : LwC Γ κ Z G a oa b N xs) (I : LwI Z G a V s) (hi : i0 + 6 < N) (hN : N ≤ 3585) (hc : cs + 1 ≤ 601024 ∧ sl + 6 ≤ 7293000) (next : ∀ V' s', LwI Z G a V' s' → zX Γ κ (Z, V') (cs + 1) (sl + 6) Q 1165 (lwV b G.x (a 0) oa i0) []) : zX Γ κ (Z, V) cs sl Q 887 (lwV b G.x (a 0) oa i0) [] := by
  obtain ⟨F, TH, hSc, hR, hM, hAp, ho, hn⟩ := C
  obtain ⟨hC9, T, L, hT⟩ := I
  have hO := hC9.ok hR
  obtain ⟨T0, X0, hC⟩ := hC9
  have hin := lw_in hi hN
  have hf0 : cs + 0 ≤ 601024 ∧ sl + 0 ≤ 7293000 := by omega
  have hf1 : cs + 0 + 0 ≤ 601024 ∧ sl + 0 + 0 ≤ 7293000 := by omega
  refine z_aload_n F dL_law_887 rfl ?_
  refine z_aload_n F dL_law_888 rfl ?_
  refine z_iload F dL_law_889 rfl ?_
  refine z_iconst (v := nI 1) F dL_law_891 (by decide) ?_
  refine z_iadd F dL_law_892 ?_
  refine z_sld F hSc dL_law_893 (hin 1 (by decide)) ?_
  refine z_cVi F (c_determinant _ hR hC) dL_law_894 ml_L_102 ok_X9_determinant hR.1.1 (by decide) rfl rfl rfl (Nat.le_of_ble_eq_true rfl) (by decide) hf0 (fun r S' hr => ?_)
  obtain ⟨rfl, V1, rfl, hg, h1⟩ := hr
  have hT1 := hT.keep hAp hg
  refine z_aload_n F dL_law_897 rfl ?_
  refine z_aload_n F dL_law_898 rfl ?_
  refine z_iload F dL_law_899 rfl ?_
  refine z_iconst (v := nI 1) F dL_law_901 (by decide) ?_
  refine z_iadd F dL_law_902 ?_
  refine z_sld F hSc dL_law_903 (hin 1 (by decide)) ?_
  refine z_cVi F (m_determinant _ hM hT1 hO) dL_law_904 ml_L_105 ok_X10_determinant hM.1.1 (by decide) rfl rfl rfl (Nat.le_of_ble_eq_true rfl) (by decide) hf1 (fun r S' hr => ?_)
  obtain ⟨rfl, V2, T2, L2, rfl, hg2, -, h2⟩ := hr
  refine z_icmp_eq (tgt := 1165) F dL_law_907 (by decide) (fun _ => ?_) (fun h => absurd rfl h)
  exact zX_widen (by omega) (by omega) (next V2 _ ⟨h1.keep hAp hR hg2, T2, L2, h2⟩)
set_option maxRecDepth 100000 in
theorem w_rest (hPr : prOk) (C : LwC Γ κ Z G a oa b N xs) (I : LwI Z G a V s) (hi : i0 + 6 < N) (hN : N ≤ 3585) (hc : cs + 1 ≤ 601024 ∧ sl + 6 ≤ 7293000) (next : ∀ V' s', LwI Z G a V' s' → zX Γ κ (Z, V') (cs + 1) (sl + 6) Q 1165 (lwV b G.x (a 0) oa i0) []) : zX Γ κ (Z, V) cs sl Q 912 (lwV b G.x (a 0) oa i0) [] := by
  obtain ⟨F, TH, hSc, hR, hM, hAp, ho, hn⟩ := C
  obtain ⟨hC9, T, L, hT⟩ := I
  have hO := hC9.ok hR
  obtain ⟨T0, X0, hC⟩ := hC9
  have hin := lw_in hi hN
  have hf0 : cs + 0 ≤ 601024 ∧ sl + 0 ≤ 7293000 := by omega
  have hf1 : cs + 0 + 0 ≤ 601024 ∧ sl + 0 + 0 ≤ 7293000 := by omega
  refine z_aload_n F dL_law_912 rfl ?_
  refine z_aload_n F dL_law_913 rfl ?_
  refine z_iload F dL_law_914 rfl ?_
  refine z_iconst (v := nI 1) F dL_law_916 (by decide) ?_
  refine z_iadd F dL_law_917 ?_
  refine z_sld F hSc dL_law_918 (hin 1 (by decide)) ?_
  refine z_aload_n F dL_law_919 rfl ?_
  refine z_iload F dL_law_920 rfl ?_
  refine z_iconst (v := nI 2) F dL_law_922 (by decide) ?_
  refine z_iadd F dL_law_923 ?_
  refine z_sld F hSc dL_law_924 (hin 2 (by decide)) ?_
  refine z_cVi F (c_rest _ _ hR hC) dL_law_925 ml_L_106 ok_X9_rest hR.1.1 (by decide) rfl rfl rfl (Nat.le_of_ble_eq_true rfl) (by decide) hf0 (fun r S' hr => ?_)
  obtain ⟨rfl, V1, rfl, hg, h1⟩ := hr
  have hT1 := hT.keep hAp hg
  refine z_aload_n F dL_law_928 rfl ?_
  refine z_aload_n F dL_law_929 rfl ?_
  refine z_iload F dL_law_930 rfl ?_
  refine z_iconst (v := nI 1) F dL_law_932 (by decide) ?_
  refine z_iadd F dL_law_933 ?_
  refine z_sld F hSc dL_law_934 (hin 1 (by decide)) ?_
  refine z_aload_n F dL_law_935 rfl ?_
  refine z_iload F dL_law_936 rfl ?_
  refine z_iconst (v := nI 2) F dL_law_938 (by decide) ?_
  refine z_iadd F dL_law_939 ?_
  refine z_sld F hSc dL_law_940 (hin 2 (by decide)) ?_
  refine z_cVi F (m_rest hPr _ _ hM hT1) dL_law_941 ml_L_109 ok_X10_rest hM.1.1 (by decide) rfl rfl rfl (Nat.le_of_ble_eq_true rfl) (by decide) hf1 (fun r S' hr => ?_)
  obtain ⟨rfl, V2, T2, L2, rfl, hg2, -, h2⟩ := hr
  refine z_icmp_eq (tgt := 1165) F dL_law_944 (by decide) (fun _ => ?_) (fun h => absurd rfl h)
  exact zX_widen (by omega) (by omega) (next V2 _ ⟨h1.keep hAp hR hg2, T2, L2, h2⟩)
set_option maxRecDepth 100000 in
theorem w_meet (hPr : prOk) (C : LwC Γ κ Z G a oa b N xs) (I : LwI Z G a V s) (hi : i0 + 6 < N) (hN : N ≤ 3585) (hc : cs + 1 ≤ 601024 ∧ sl + 6 ≤ 7293000) (next : ∀ V' s', LwI Z G a V' s' → zX Γ κ (Z, V') (cs + 1) (sl + 6) Q 1165 (lwV b G.x (a 0) oa i0) []) : zX Γ κ (Z, V) cs sl Q 949 (lwV b G.x (a 0) oa i0) [] := by
  obtain ⟨F, TH, hSc, hR, hM, hAp, ho, hn⟩ := C
  obtain ⟨hC9, T, L, hT⟩ := I
  have hO := hC9.ok hR
  obtain ⟨T0, X0, hC⟩ := hC9
  have hin := lw_in hi hN
  have hf0 : cs + 0 ≤ 601024 ∧ sl + 0 ≤ 7293000 := by omega
  have hf1 : cs + 0 + 0 ≤ 601024 ∧ sl + 0 + 0 ≤ 7293000 := by omega
  refine z_aload_n F dL_law_949 rfl ?_
  refine z_aload_n F dL_law_950 rfl ?_
  refine z_iload F dL_law_951 rfl ?_
  refine z_iconst (v := nI 1) F dL_law_953 (by decide) ?_
  refine z_iadd F dL_law_954 ?_
  refine z_sld F hSc dL_law_955 (hin 1 (by decide)) ?_
  refine z_aload_n F dL_law_956 rfl ?_
  refine z_iload F dL_law_957 rfl ?_
  refine z_iconst (v := nI 2) F dL_law_959 (by decide) ?_
  refine z_iadd F dL_law_960 ?_
  refine z_sld F hSc dL_law_961 (hin 2 (by decide)) ?_
  refine z_cVi F (c_meet _ _ hR hC) dL_law_962 ml_L_110 ok_X9_meet hR.1.1 (by decide) rfl rfl rfl (Nat.le_of_ble_eq_true rfl) (by decide) hf0 (fun r S' hr => ?_)
  obtain ⟨rfl, V1, rfl, hg, h1⟩ := hr
  have hT1 := hT.keep hAp hg
  refine z_aload_n F dL_law_965 rfl ?_
  refine z_aload_n F dL_law_966 rfl ?_
  refine z_iload F dL_law_967 rfl ?_
  refine z_iconst (v := nI 1) F dL_law_969 (by decide) ?_
  refine z_iadd F dL_law_970 ?_
  refine z_sld F hSc dL_law_971 (hin 1 (by decide)) ?_
  refine z_aload_n F dL_law_972 rfl ?_
  refine z_iload F dL_law_973 rfl ?_
  refine z_iconst (v := nI 2) F dL_law_975 (by decide) ?_
  refine z_iadd F dL_law_976 ?_
  refine z_sld F hSc dL_law_977 (hin 2 (by decide)) ?_
  refine z_cVi F (m_meet hPr _ _ hM hT1 hO) dL_law_978 ml_L_113 ok_X10_meet hM.1.1 (by decide) rfl rfl rfl (Nat.le_of_ble_eq_true rfl) (by decide) hf1 (fun r S' hr => ?_)
  obtain ⟨rfl, V2, T2, L2, rfl, hg2, -, h2⟩ := hr
  refine z_icmp_eq (tgt := 1165) F dL_law_981 (by decide) (fun _ => ?_) (fun h => absurd rfl h)
  exact zX_widen (by omega) (by omega) (next V2 _ ⟨h1.keep hAp hR hg2, T2, L2, h2⟩)
set_option maxRecDepth 100000 in
theorem w_joined (hPr : prOk) (C : LwC Γ κ Z G a oa b N xs) (I : LwI Z G a V s) (hi : i0 + 6 < N) (hN : N ≤ 3585) (hc : cs + 1 ≤ 601024 ∧ sl + 6 ≤ 7293000) (next : ∀ V' s', LwI Z G a V' s' → zX Γ κ (Z, V') (cs + 1) (sl + 6) Q 1165 (lwV b G.x (a 0) oa i0) []) : zX Γ κ (Z, V) cs sl Q 986 (lwV b G.x (a 0) oa i0) [] := by
  obtain ⟨F, TH, hSc, hR, hM, hAp, ho, hn⟩ := C
  obtain ⟨hC9, T, L, hT⟩ := I
  have hO := hC9.ok hR
  obtain ⟨T0, X0, hC⟩ := hC9
  have hin := lw_in hi hN
  have hf0 : cs + 0 ≤ 601024 ∧ sl + 0 ≤ 7293000 := by omega
  have hf1 : cs + 0 + 0 ≤ 601024 ∧ sl + 0 + 0 ≤ 7293000 := by omega
  refine z_aload_n F dL_law_986 rfl ?_
  refine z_aload_n F dL_law_987 rfl ?_
  refine z_iload F dL_law_988 rfl ?_
  refine z_iconst (v := nI 1) F dL_law_990 (by decide) ?_
  refine z_iadd F dL_law_991 ?_
  refine z_sld F hSc dL_law_992 (hin 1 (by decide)) ?_
  refine z_cVi F (c_joined _ hR hC) dL_law_993 ml_L_114 ok_X9_joined hR.1.1 (by decide) rfl rfl rfl (Nat.le_of_ble_eq_true rfl) (by decide) hf0 (fun r S' hr => ?_)
  obtain ⟨rfl, V1, rfl, hg, h1⟩ := hr
  have hT1 := hT.keep hAp hg
  refine z_aload_n F dL_law_996 rfl ?_
  refine z_aload_n F dL_law_997 rfl ?_
  refine z_iload F dL_law_998 rfl ?_
  refine z_iconst (v := nI 1) F dL_law_1000 (by decide) ?_
  refine z_iadd F dL_law_1001 ?_
  refine z_sld F hSc dL_law_1002 (hin 1 (by decide)) ?_
  refine z_cVi F (m_joined _ hM hT1) dL_law_1003 ml_L_117 ok_X10_joined hM.1.1 (by decide) rfl rfl rfl (Nat.le_of_ble_eq_true rfl) (by decide) hf1 (fun r S' hr => ?_)
  obtain ⟨rfl, V2, T2, L2, rfl, hg2, -, h2⟩ := hr
  refine z_icmp_eq (tgt := 1165) F dL_law_1006 (by decide) (fun _ => ?_) (fun h => absurd rfl h)
  exact zX_widen (by omega) (by omega) (next V2 _ ⟨h1.keep hAp hR hg2, T2, L2, h2⟩)
set_option maxRecDepth 100000 in
theorem w_recover (hPr : prOk) (C : LwC Γ κ Z G a oa b N xs) (I : LwI Z G a V s) (hi : i0 + 6 < N) (hN : N ≤ 3585) (hc : cs + 1 ≤ 601024 ∧ sl + 6 ≤ 7293000) (next : ∀ V' s', LwI Z G a V' s' → zX Γ κ (Z, V') (cs + 1) (sl + 6) Q 1165 (lwV b G.x (a 0) oa i0) []) : zX Γ κ (Z, V) cs sl Q 1011 (lwV b G.x (a 0) oa i0) [] := by
  obtain ⟨F, TH, hSc, hR, hM, hAp, ho, hn⟩ := C
  obtain ⟨hC9, T, L, hT⟩ := I
  have hO := hC9.ok hR
  obtain ⟨T0, X0, hC⟩ := hC9
  have hin := lw_in hi hN
  have hf0 : cs + 0 ≤ 601024 ∧ sl + 0 ≤ 7293000 := by omega
  have hf1 : cs + 0 + 0 ≤ 601024 ∧ sl + 0 + 0 ≤ 7293000 := by omega
  refine z_aload_n F dL_law_1011 rfl ?_
  refine z_cVi F (c_recover  hR hC) dL_law_1012 ml_L_118 ok_X9_recover hR.1.1 (by decide) rfl rfl rfl (Nat.le_of_ble_eq_true rfl) (by decide) hf0 (fun r S' hr => ?_)
  obtain ⟨rfl, V1, rfl, hg, h1⟩ := hr
  have hT1 := hT.keep hAp hg
  refine z_aload_n F dL_law_1015 rfl ?_
  refine z_cVi F (m_recover  hM hT1 hO) dL_law_1016 ml_L_121 ok_X10_recover hM.1.1 (by decide) rfl rfl rfl (Nat.le_of_ble_eq_true rfl) (by decide) hf1 (fun r S' hr => ?_)
  obtain ⟨rfl, V2, T2, L2, rfl, hg2, -, h2⟩ := hr
  refine z_icmp_eq (tgt := 1165) F dL_law_1019 (by decide) (fun _ => ?_) (fun h => absurd rfl h)
  exact zX_widen (by omega) (by omega) (next V2 _ ⟨h1.keep hAp hR hg2, T2, L2, h2⟩)
set_option maxRecDepth 100000 in
theorem w_part (hPr : prOk) (C : LwC Γ κ Z G a oa b N xs) (I : LwI Z G a V s) (hi : i0 + 6 < N) (hN : N ≤ 3585) (hc : cs + 1 ≤ 601024 ∧ sl + 6 ≤ 7293000) (next : ∀ V' s', LwI Z G a V' s' → zX Γ κ (Z, V') (cs + 1) (sl + 6) Q 1165 (lwV b G.x (a 0) oa i0) []) : zX Γ κ (Z, V) cs sl Q 1024 (lwV b G.x (a 0) oa i0) [] := by
  obtain ⟨F, TH, hSc, hR, hM, hAp, ho, hn⟩ := C
  obtain ⟨hC9, T, L, hT⟩ := I
  have hO := hC9.ok hR
  obtain ⟨T0, X0, hC⟩ := hC9
  have hin := lw_in hi hN
  have hf0 : cs + 0 ≤ 601024 ∧ sl + 0 ≤ 7293000 := by omega
  have hf1 : cs + 0 + 0 ≤ 601024 ∧ sl + 0 + 0 ≤ 7293000 := by omega
  refine z_aload_n F dL_law_1024 rfl ?_
  refine z_cVi F (c_part  hR hC) dL_law_1025 ml_L_122 ok_X9_part hR.1.1 (by decide) rfl rfl rfl (Nat.le_of_ble_eq_true rfl) (by decide) hf0 (fun r S' hr => ?_)
  obtain ⟨rfl, V1, rfl, hg, h1⟩ := hr
  have hT1 := hT.keep hAp hg
  refine z_aload_n F dL_law_1028 rfl ?_
  refine z_cVi F (m_part  hM hT1) dL_law_1029 ml_L_125 ok_X10_part hM.1.1 (by decide) rfl rfl rfl (Nat.le_of_ble_eq_true rfl) (by decide) hf1 (fun r S' hr => ?_)
  obtain ⟨rfl, V2, T2, L2, rfl, hg2, -, h2⟩ := hr
  refine z_icmp_eq (tgt := 1165) F dL_law_1032 (by decide) (fun _ => ?_) (fun h => absurd rfl h)
  exact zX_widen (by omega) (by omega) (next V2 _ ⟨h1.keep hAp hR hg2, T2, L2, h2⟩)
set_option maxRecDepth 100000 in
theorem w_decimals (hPr : prOk) (C : LwC Γ κ Z G a oa b N xs) (I : LwI Z G a V s) (hi : i0 + 6 < N) (hN : N ≤ 3585) (hc : cs + 1 ≤ 601024 ∧ sl + 6 ≤ 7293000) (next : ∀ V' s', LwI Z G a V' s' → zX Γ κ (Z, V') (cs + 1) (sl + 6) Q 1165 (lwV b G.x (a 0) oa i0) []) : zX Γ κ (Z, V) cs sl Q 1037 (lwV b G.x (a 0) oa i0) [] := by
  obtain ⟨F, TH, hSc, hR, hM, hAp, ho, hn⟩ := C
  obtain ⟨hC9, T, L, hT⟩ := I
  have hO := hC9.ok hR
  obtain ⟨T0, X0, hC⟩ := hC9
  have hin := lw_in hi hN
  have hf0 : cs + 0 ≤ 601024 ∧ sl + 0 ≤ 7293000 := by omega
  have hf1 : cs + 0 + 0 ≤ 601024 ∧ sl + 0 + 0 ≤ 7293000 := by omega
  refine z_aload_n F dL_law_1037 rfl ?_
  refine z_aload_n F dL_law_1038 rfl ?_
  refine z_iload F dL_law_1039 rfl ?_
  refine z_iconst (v := nI 1) F dL_law_1041 (by decide) ?_
  refine z_iadd F dL_law_1042 ?_
  refine z_sld F hSc dL_law_1043 (hin 1 (by decide)) ?_
  refine z_aload_n F dL_law_1044 rfl ?_
  refine z_iload F dL_law_1045 rfl ?_
  refine z_iconst (v := nI 2) F dL_law_1047 (by decide) ?_
  refine z_iadd F dL_law_1048 ?_
  refine z_sld F hSc dL_law_1049 (hin 2 (by decide)) ?_
  refine z_aload_n F dL_law_1050 rfl ?_
  refine z_iload F dL_law_1051 rfl ?_
  refine z_iconst (v := nI 3) F dL_law_1053 (by decide) ?_
  refine z_iadd F dL_law_1054 ?_
  refine z_sld F hSc dL_law_1055 (hin 3 (by decide)) ?_
  refine z_if_eq (tgt := 1063) F dL_law_1056 (by decide) (fun c => ?_) (fun c => ?_)
  · refine z_iconst (v := nI 0) F dL_law_1063 (by decide) ?_
    refine z_cVi F (c_decimals _ _ false hR hC) dL_law_1064 ml_L_126 ok_X9_decimals hR.1.1 (by decide) rfl rfl rfl (Nat.le_of_ble_eq_true rfl) (by decide) hf0 (fun r S' hr => ?_)
    obtain ⟨rfl, V1, rfl, hg, h1⟩ := hr
    have hT1 := hT.keep hAp hg
    refine z_aload_n F dL_law_1067 rfl ?_
    refine z_aload_n F dL_law_1068 rfl ?_
    refine z_iload F dL_law_1069 rfl ?_
    refine z_iconst (v := nI 1) F dL_law_1071 (by decide) ?_
    refine z_iadd F dL_law_1072 ?_
    refine z_sld F hSc dL_law_1073 (hin 1 (by decide)) ?_
    refine z_aload_n F dL_law_1074 rfl ?_
    refine z_iload F dL_law_1075 rfl ?_
    refine z_iconst (v := nI 2) F dL_law_1077 (by decide) ?_
    refine z_iadd F dL_law_1078 ?_
    refine z_sld F hSc dL_law_1079 (hin 2 (by decide)) ?_
    refine z_aload_n F dL_law_1080 rfl ?_
    refine z_iload F dL_law_1081 rfl ?_
    refine z_iconst (v := nI 3) F dL_law_1083 (by decide) ?_
    refine z_iadd F dL_law_1084 ?_
    refine z_sld F hSc dL_law_1085 (hin 3 (by decide)) ?_
    refine z_if_eq (tgt := 1093) F dL_law_1086 (by decide) (fun _ => ?_) (fun c2 => absurd c c2)
    refine z_iconst (v := nI 0) F dL_law_1093 (by decide) ?_
    refine z_cVi F (m_decimals _ _ false hM hT1 hO) dL_law_1094 ml_L_130 ok_X10_decimals hM.1.1 (by decide) rfl rfl rfl (Nat.le_of_ble_eq_true rfl) (by decide) hf1 (fun r S' hr => ?_)
    obtain ⟨rfl, V2, T2, L2, rfl, hg2, -, h2⟩ := hr
    refine z_icmp_eq (tgt := 1165) F dL_law_1097 (by decide) (fun _ => ?_) (fun h => absurd rfl h)
    exact zX_widen (by omega) (by omega) (next V2 _ ⟨h1.keep hAp hR hg2, T2, L2, h2⟩)
  · refine z_iconst (v := nI 1) F dL_law_1059 (by decide) ?_
    refine z_goto (tgt := 1064) F dL_law_1060 (by decide) ?_
    refine z_cVi F (c_decimals _ _ true hR hC) dL_law_1064 ml_L_126 ok_X9_decimals hR.1.1 (by decide) rfl rfl rfl (Nat.le_of_ble_eq_true rfl) (by decide) hf0 (fun r S' hr => ?_)
    obtain ⟨rfl, V1, rfl, hg, h1⟩ := hr
    have hT1 := hT.keep hAp hg
    refine z_aload_n F dL_law_1067 rfl ?_
    refine z_aload_n F dL_law_1068 rfl ?_
    refine z_iload F dL_law_1069 rfl ?_
    refine z_iconst (v := nI 1) F dL_law_1071 (by decide) ?_
    refine z_iadd F dL_law_1072 ?_
    refine z_sld F hSc dL_law_1073 (hin 1 (by decide)) ?_
    refine z_aload_n F dL_law_1074 rfl ?_
    refine z_iload F dL_law_1075 rfl ?_
    refine z_iconst (v := nI 2) F dL_law_1077 (by decide) ?_
    refine z_iadd F dL_law_1078 ?_
    refine z_sld F hSc dL_law_1079 (hin 2 (by decide)) ?_
    refine z_aload_n F dL_law_1080 rfl ?_
    refine z_iload F dL_law_1081 rfl ?_
    refine z_iconst (v := nI 3) F dL_law_1083 (by decide) ?_
    refine z_iadd F dL_law_1084 ?_
    refine z_sld F hSc dL_law_1085 (hin 3 (by decide)) ?_
    refine z_if_eq (tgt := 1093) F dL_law_1086 (by decide) (fun c2 => absurd c2 c) (fun _ => ?_)
    refine z_iconst (v := nI 1) F dL_law_1089 (by decide) ?_
    refine z_goto (tgt := 1094) F dL_law_1090 (by decide) ?_
    refine z_cVi F (m_decimals _ _ true hM hT1 hO) dL_law_1094 ml_L_130 ok_X10_decimals hM.1.1 (by decide) rfl rfl rfl (Nat.le_of_ble_eq_true rfl) (by decide) hf1 (fun r S' hr => ?_)
    obtain ⟨rfl, V2, T2, L2, rfl, hg2, -, h2⟩ := hr
    refine z_icmp_eq (tgt := 1165) F dL_law_1097 (by decide) (fun _ => ?_) (fun h => absurd rfl h)
    exact zX_widen (by omega) (by omega) (next V2 _ ⟨h1.keep hAp hR hg2, T2, L2, h2⟩)
set_option maxRecDepth 100000 in
theorem w_sign (hPr : prOk) (C : LwC Γ κ Z G a oa b N xs) (I : LwI Z G a V s) (hi : i0 + 6 < N) (hN : N ≤ 3585) (hc : cs + 1 ≤ 601024 ∧ sl + 6 ≤ 7293000) (next : ∀ V' s', LwI Z G a V' s' → zX Γ κ (Z, V') (cs + 1) (sl + 6) Q 1165 (lwV b G.x (a 0) oa i0) []) : zX Γ κ (Z, V) cs sl Q 1102 (lwV b G.x (a 0) oa i0) [] := by
  obtain ⟨F, TH, hSc, hR, hM, hAp, ho, hn⟩ := C
  obtain ⟨hC9, T, L, hT⟩ := I
  have hO := hC9.ok hR
  obtain ⟨T0, X0, hC⟩ := hC9
  have hin := lw_in hi hN
  have hf0 : cs + 0 ≤ 601024 ∧ sl + 0 ≤ 7293000 := by omega
  have hf1 : cs + 0 + 0 ≤ 601024 ∧ sl + 0 + 0 ≤ 7293000 := by omega
  refine z_aload_n F dL_law_1102 rfl ?_
  refine z_aload_n F dL_law_1103 rfl ?_
  refine z_iload F dL_law_1104 rfl ?_
  refine z_iconst (v := nI 1) F dL_law_1106 (by decide) ?_
  refine z_iadd F dL_law_1107 ?_
  refine z_sld F hSc dL_law_1108 (hin 1 (by decide)) ?_
  refine z_cVi F (c_sign _ hR hC) dL_law_1109 ml_L_131 ok_X9_sign hR.1.1 (by decide) rfl rfl rfl (Nat.le_of_ble_eq_true rfl) (by decide) hf0 (fun r S' hr => ?_)
  obtain ⟨rfl, V1, rfl, hg, h1⟩ := hr
  have hT1 := hT.keep hAp hg
  refine z_aload_n F dL_law_1112 rfl ?_
  refine z_aload_n F dL_law_1113 rfl ?_
  refine z_iload F dL_law_1114 rfl ?_
  refine z_iconst (v := nI 1) F dL_law_1116 (by decide) ?_
  refine z_iadd F dL_law_1117 ?_
  refine z_sld F hSc dL_law_1118 (hin 1 (by decide)) ?_
  refine z_cVi F (m_sign _ hM hT1) dL_law_1119 ml_L_134 ok_X10_sign hM.1.1 (by decide) rfl rfl rfl (Nat.le_of_ble_eq_true rfl) (by decide) hf1 (fun r S' hr => ?_)
  obtain ⟨rfl, V2, T2, L2, rfl, hg2, -, h2⟩ := hr
  refine z_icmp_eq (tgt := 1165) F dL_law_1122 (by decide) (fun _ => ?_) (fun h => absurd rfl h)
  exact zX_widen (by omega) (by omega) (next V2 _ ⟨h1.keep hAp hR hg2, T2, L2, h2⟩)
set_option maxRecDepth 100000 in
theorem w_count (hPr : prOk) (C : LwC Γ κ Z G a oa b N xs) (I : LwI Z G a V s) (hi : i0 + 6 < N) (hN : N ≤ 3585) (hc : cs + 1 ≤ 601024 ∧ sl + 6 ≤ 7293000) (next : ∀ V' s', LwI Z G a V' s' → zX Γ κ (Z, V') (cs + 1) (sl + 6) Q 1165 (lwV b G.x (a 0) oa i0) []) : zX Γ κ (Z, V) cs sl Q 1127 (lwV b G.x (a 0) oa i0) [] := by
  obtain ⟨F, TH, hSc, hR, hM, hAp, ho, hn⟩ := C
  obtain ⟨hC9, T, L, hT⟩ := I
  have hO := hC9.ok hR
  obtain ⟨T0, X0, hC⟩ := hC9
  have hin := lw_in hi hN
  have hf0 : cs + 0 ≤ 601024 ∧ sl + 0 ≤ 7293000 := by omega
  have hf1 : cs + 0 + 0 ≤ 601024 ∧ sl + 0 + 0 ≤ 7293000 := by omega
  refine z_aload_n F dL_law_1127 rfl ?_
  refine z_aload_n F dL_law_1128 rfl ?_
  refine z_iload F dL_law_1129 rfl ?_
  refine z_iconst (v := nI 1) F dL_law_1131 (by decide) ?_
  refine z_iadd F dL_law_1132 ?_
  refine z_sld F hSc dL_law_1133 (hin 1 (by decide)) ?_
  refine z_cVi F (c_count _ hR hC) dL_law_1134 ml_L_135 ok_X9_count hR.1.1 (by decide) rfl rfl rfl (Nat.le_of_ble_eq_true rfl) (by decide) hf0 (fun r S' hr => ?_)
  obtain ⟨rfl, V1, rfl, hg, h1⟩ := hr
  have hT1 := hT.keep hAp hg
  refine z_aload_n F dL_law_1137 rfl ?_
  refine z_aload_n F dL_law_1138 rfl ?_
  refine z_iload F dL_law_1139 rfl ?_
  refine z_iconst (v := nI 1) F dL_law_1141 (by decide) ?_
  refine z_iadd F dL_law_1142 ?_
  refine z_sld F hSc dL_law_1143 (hin 1 (by decide)) ?_
  refine z_cVi F (m_count _ hM hT1) dL_law_1144 ml_L_138 ok_X10_count hM.1.1 (by decide) rfl rfl rfl (Nat.le_of_ble_eq_true rfl) (by decide) hf1 (fun r S' hr => ?_)
  obtain ⟨rfl, V2, T2, L2, rfl, hg2, -, h2⟩ := hr
  refine z_icmp_eq (tgt := 1165) F dL_law_1147 (by decide) (fun _ => ?_) (fun h => absurd rfl h)
  exact zX_widen (by omega) (by omega) (next V2 _ ⟨h1.keep hAp hR hg2, T2, L2, h2⟩)
set_option maxRecDepth 100000 in
theorem w_clear (hPr : prOk) (C : LwC Γ κ Z G a oa b N xs) (I : LwI Z G a V s) (hi : i0 + 6 < N) (hN : N ≤ 3585) (hc : cs + 1 ≤ 601024 ∧ sl + 6 ≤ 7293000) (next : ∀ V' s', LwI Z G a V' s' → zX Γ κ (Z, V') (cs + 1) (sl + 6) Q 1165 (lwV b G.x (a 0) oa i0) []) : zX Γ κ (Z, V) cs sl Q 1152 (lwV b G.x (a 0) oa i0) [] := by
  obtain ⟨F, TH, hSc, hR, hM, hAp, ho, hn⟩ := C
  obtain ⟨hC9, T, L, hT⟩ := I
  have hO := hC9.ok hR
  obtain ⟨T0, X0, hC⟩ := hC9
  have hin := lw_in hi hN
  have hf0 : cs + 0 ≤ 601024 ∧ sl + 0 ≤ 7293000 := by omega
  have hf1 : cs + 0 + 0 ≤ 601024 ∧ sl + 0 + 0 ≤ 7293000 := by omega
  refine z_aload_n F dL_law_1152 rfl ?_
  refine z_cVi F (c_clear  hR hC) dL_law_1153 ml_L_139 ok_X9_clear hR.1.1 (by decide) rfl rfl rfl (Nat.le_of_ble_eq_true rfl) (by decide) hf0 (fun r S' hr => ?_)
  obtain ⟨rfl, V1, rfl, hg, h1⟩ := hr
  have hT1 := hT.keep hAp hg
  refine z_aload_n F dL_law_1156 rfl ?_
  refine z_cVi F (m_clear  hM hT1) dL_law_1157 ml_L_142 ok_X10_clear hM.1.1 (by decide) rfl rfl rfl (Nat.le_of_ble_eq_true rfl) (by decide) hf1 (fun r S' hr => ?_)
  obtain ⟨rfl, V2, T2, L2, rfl, hg2, -, h2⟩ := hr
  refine z_icmp_eq (tgt := 1165) F dL_law_1160 (by decide) (fun _ => ?_) (fun h => absurd rfl h)
  exact zX_widen (by omega) (by omega) (next V2 _ ⟨h1.keep hAp hR hg2, T2, L2, h2⟩)
set_option maxRecDepth 100000 in
theorem w_quotient (hPr : prOk) (C : LwC Γ κ Z G a oa b N xs) (I : LwI Z G a V s) (hi : i0 + 6 < N) (hN : N ≤ 3585) (hc : cs + 1 ≤ 601024 ∧ sl + 6 ≤ 7293000) (next : ∀ V' s', LwI Z G a V' s' → zX Γ κ (Z, V') (cs + 1) (sl + 6) Q 1165 (lwV b G.x (a 0) oa i0) []) : zX Γ κ (Z, V) cs sl Q 314 (lwV b G.x (a 0) oa i0) [] := by
  obtain ⟨F, TH, hSc, hR, hM, hAp, ho, hn⟩ := C
  obtain ⟨hC9, T, L, hT⟩ := I
  have hO := hC9.ok hR
  obtain ⟨T0, X0, hC⟩ := hC9
  have hin := lw_in hi hN
  have hf0 : cs + 0 ≤ 601024 ∧ sl + 0 ≤ 7293000 := by omega
  have hf1 : cs + 0 + 0 ≤ 601024 ∧ sl + 0 + 0 ≤ 7293000 := by omega
  have hg1 : cs + 1 ≤ 601024 ∧ sl + 6 ≤ 7293000 := hc
  have hg2 : cs + 1 + 0 ≤ 601024 ∧ sl + 6 + 0 ≤ 7293000 := by omega
  have hg3 : cs + 1 + 0 + 0 ≤ 601024 ∧ sl + 6 + 0 + 0 ≤ 7293000 := by omega
  refine z_aload_n F dL_law_314 rfl ?_
  refine z_aload_n F dL_law_315 rfl ?_
  refine z_iload F dL_law_316 rfl ?_
  refine z_iconst (v := nI 1) F dL_law_318 (by decide) ?_
  refine z_iadd F dL_law_319 ?_
  refine z_sld F hSc dL_law_320 (hin 1 (by decide)) ?_
  refine z_aload_n F dL_law_321 rfl ?_
  refine z_iload F dL_law_322 rfl ?_
  refine z_iconst (v := nI 2) F dL_law_324 (by decide) ?_
  refine z_iadd F dL_law_325 ?_
  refine z_sld F hSc dL_law_326 (hin 2 (by decide)) ?_
  refine z_aload_n F dL_law_327 rfl ?_
  refine z_callH (n := 4) F TH (h_quotient _ _ hR hC ho hn) dL_law_328 ml_L_44 rfl ⟨by decide +kernel, by decide +kernel, by decide +kernel⟩ ini_L cw_quotient stc_L_quotient rfl rfl rfl (Nat.le_of_ble_eq_true rfl) (by decide) hg1 (fun r S' hr => ?_)
  obtain ⟨v, rfl, V1, hg, h1, hh⟩ := hr
  have hT1 := hT.keep hAp hg
  rcases hh with ⟨rfl, hx, rfl⟩ | ⟨rfl, y, hx, rfl⟩
  · refine z_istore_5 F dL_law_331 rfl ?_
    refine z_aload_n F dL_law_333 rfl ?_
    refine z_aload_n F dL_law_334 rfl ?_
    refine z_iload F dL_law_335 rfl ?_
    refine z_iconst (v := nI 1) F dL_law_337 (by decide) ?_
    refine z_iadd F dL_law_338 ?_
    refine z_sld F hSc dL_law_339 (hin 1 (by decide)) ?_
    refine z_aload_n F dL_law_340 rfl ?_
    refine z_iload F dL_law_341 rfl ?_
    refine z_iconst (v := nI 2) F dL_law_343 (by decide) ?_
    refine z_iadd F dL_law_344 ?_
    refine z_sld F hSc dL_law_345 (hin 2 (by decide)) ?_
    refine z_cVi F (m_quotient _ _ hM hT1 hO) dL_law_346 ml_L_47 ok_X10_quotient hM.1.1 (by decide) rfl rfl rfl (Nat.le_of_ble_eq_true rfl) (by decide) hg2 (fun r S' hr => ?_)
    obtain ⟨rfl, V2, T2, L2, rfl, hg9, hth, h2⟩ := hr
    rw [hx] at hth
    refine z_istore_6 F dL_law_349 rfl ?_
    refine z_aload_n F dL_law_351 rfl ?_
    refine z_cVi F (m_thrown (x := 1) hM hth) dL_law_352 ml_L_48 ok_X10_thrown hM.1.1 (by decide) rfl rfl rfl (Nat.le_of_ble_eq_true rfl) (by decide) hg3 (fun r S' hr => ?_)
    obtain ⟨rfl, rfl⟩ := hr
    refine z_iload F dL_law_355 rfl ?_
    refine z_icmp_eq (tgt := 362) F dL_law_357 (by decide) (fun _ => ?_) (fun h => absurd rfl h)
    refine z_iload F dL_law_362 rfl ?_
    refine z_if_ne (tgt := 379) F dL_law_364 (by decide) (fun _ => ?_) (fun h => absurd h (by decide))
    refine z_goto (tgt := 1165) F dL_law_379 (by decide) ?_
    refine zX_fg (pre := [some (.ref b), some (.ref G.x), some (.ref (a 0)), some (.ref oa), some (.int (nI i0))]) (suf := [_]) ?_
    refine zX_fg (pre := [some (.ref b), some (.ref G.x), some (.ref (a 0)), some (.ref oa), some (.int (nI i0)), none]) (suf := []) ?_
    exact zX_widen (by omega) (by omega) (next V2 _ ⟨h1.keep hAp hR hg9, T2, L2, h2⟩)
  · refine z_istore_5 F dL_law_331 rfl ?_
    refine z_aload_n F dL_law_333 rfl ?_
    refine z_aload_n F dL_law_334 rfl ?_
    refine z_iload F dL_law_335 rfl ?_
    refine z_iconst (v := nI 1) F dL_law_337 (by decide) ?_
    refine z_iadd F dL_law_338 ?_
    refine z_sld F hSc dL_law_339 (hin 1 (by decide)) ?_
    refine z_aload_n F dL_law_340 rfl ?_
    refine z_iload F dL_law_341 rfl ?_
    refine z_iconst (v := nI 2) F dL_law_343 (by decide) ?_
    refine z_iadd F dL_law_344 ?_
    refine z_sld F hSc dL_law_345 (hin 2 (by decide)) ?_
    refine z_cVi F (m_quotient _ _ hM hT1.out hO) dL_law_346 ml_L_47 ok_X10_quotient hM.1.1 (by decide) rfl rfl rfl (Nat.le_of_ble_eq_true rfl) (by decide) hg2 (fun r S' hr => ?_)
    obtain ⟨rfl, V2, T2, L2, rfl, hg9, hth, h2⟩ := hr
    rw [hx] at hth
    refine z_istore_6 F dL_law_349 rfl ?_
    refine z_aload_n F dL_law_351 rfl ?_
    refine z_cVi F (m_thrown (x := 0) hM hth) dL_law_352 ml_L_48 ok_X10_thrown hM.1.1 (by decide) rfl rfl rfl (Nat.le_of_ble_eq_true rfl) (by decide) hg3 (fun r S' hr => ?_)
    obtain ⟨rfl, rfl⟩ := hr
    refine z_iload F dL_law_355 rfl ?_
    refine z_icmp_eq (tgt := 362) F dL_law_357 (by decide) (fun _ => ?_) (fun h => absurd rfl h)
    refine z_iload F dL_law_362 rfl ?_
    refine z_if_ne (tgt := 379) F dL_law_364 (by decide) (fun h => absurd rfl h) (fun _ => ?_)
    refine z_aload_n F dL_law_367 rfl ?_
    refine z_iconst (v := nI 0) F dL_law_368 (by decide) ?_
    refine z_lald F dL_law_369 ho (by rw [hn]; exact vp_in_nI (n := 0) (N := 1) (by decide) (by decide)) ?_
    refine z_tl (y := y.toInt64) (by
      show vJ V2 oa 0 = y.toInt64
      rw [hg9.2.2]
      show va_up (vJ V1) oa (vp_updL (vJ V1 oa) 0 y.toInt64) oa 0 = y.toInt64
      rw [up_self]; rfl) ?_
    refine z_iload F dL_law_370 rfl ?_
    refine z_i2l F dL_law_372 ?_
    refine z_lcmp F dL_law_373 ?_
    refine z_ti (y := 0) (by rw [hx]; exact lcmp_same _) ?_
    refine z_if_eq (tgt := 379) F dL_law_374 (by decide) (fun _ => ?_) (fun h => absurd rfl h)
    refine z_goto (tgt := 1165) F dL_law_379 (by decide) ?_
    refine zX_fg (pre := [some (.ref b), some (.ref G.x), some (.ref (a 0)), some (.ref oa), some (.int (nI i0))]) (suf := [_]) ?_
    refine zX_fg (pre := [some (.ref b), some (.ref G.x), some (.ref (a 0)), some (.ref oa), some (.int (nI i0)), none]) (suf := []) ?_
    exact zX_widen (by omega) (by omega) (next V2 _ ⟨h1.out.keep hAp hR hg9, T2, L2, h2⟩)
set_option maxRecDepth 100000 in
theorem w_limb (hPr : prOk) (C : LwC Γ κ Z G a oa b N xs) (I : LwI Z G a V s) (hi : i0 + 6 < N) (hN : N ≤ 3585) (hc : cs + 1 ≤ 601024 ∧ sl + 6 ≤ 7293000) (next : ∀ V' s', LwI Z G a V' s' → zX Γ κ (Z, V') (cs + 1) (sl + 6) Q 1165 (lwV b G.x (a 0) oa i0) []) : zX Γ κ (Z, V) cs sl Q 469 (lwV b G.x (a 0) oa i0) [] := by
  obtain ⟨F, TH, hSc, hR, hM, hAp, ho, hn⟩ := C
  obtain ⟨hC9, T, L, hT⟩ := I
  have hO := hC9.ok hR
  obtain ⟨T0, X0, hC⟩ := hC9
  have hin := lw_in hi hN
  have hf0 : cs + 0 ≤ 601024 ∧ sl + 0 ≤ 7293000 := by omega
  have hf1 : cs + 0 + 0 ≤ 601024 ∧ sl + 0 + 0 ≤ 7293000 := by omega
  have hg1 : cs + 1 ≤ 601024 ∧ sl + 6 ≤ 7293000 := hc
  have hg2 : cs + 1 + 0 ≤ 601024 ∧ sl + 6 + 0 ≤ 7293000 := by omega
  have hg3 : cs + 1 + 0 + 0 ≤ 601024 ∧ sl + 6 + 0 + 0 ≤ 7293000 := by omega
  refine z_aload_n F dL_law_469 rfl ?_
  refine z_aload_n F dL_law_470 rfl ?_
  refine z_iload F dL_law_471 rfl ?_
  refine z_iconst (v := nI 1) F dL_law_473 (by decide) ?_
  refine z_iadd F dL_law_474 ?_
  refine z_sld F hSc dL_law_475 (hin 1 (by decide)) ?_
  refine z_aload_n F dL_law_476 rfl ?_
  refine z_iload F dL_law_477 rfl ?_
  refine z_iconst (v := nI 2) F dL_law_479 (by decide) ?_
  refine z_iadd F dL_law_480 ?_
  refine z_sld F hSc dL_law_481 (hin 2 (by decide)) ?_
  refine z_aload_n F dL_law_482 rfl ?_
  refine z_iload F dL_law_483 rfl ?_
  refine z_iconst (v := nI 3) F dL_law_485 (by decide) ?_
  refine z_iadd F dL_law_486 ?_
  refine z_sld F hSc dL_law_487 (hin 3 (by decide)) ?_
  refine z_aload_n F dL_law_488 rfl ?_
  refine z_callH (n := 5) F TH (h_limb _ _ _ hR hC ho hn) dL_law_489 ml_L_64 rfl ⟨by decide +kernel, by decide +kernel, by decide +kernel⟩ ini_L cw_limb stc_L_limb rfl rfl rfl (Nat.le_of_ble_eq_true rfl) (by decide) hg1 (fun r S' hr => ?_)
  obtain ⟨v, rfl, V1, hg, h1, hh⟩ := hr
  have hT1 := hT.keep hAp hg
  rcases hh with ⟨rfl, hx, rfl⟩ | ⟨rfl, y, hx, rfl⟩
  · refine z_istore_5 F dL_law_492 rfl ?_
    refine z_aload_n F dL_law_494 rfl ?_
    refine z_aload_n F dL_law_495 rfl ?_
    refine z_iload F dL_law_496 rfl ?_
    refine z_iconst (v := nI 1) F dL_law_498 (by decide) ?_
    refine z_iadd F dL_law_499 ?_
    refine z_sld F hSc dL_law_500 (hin 1 (by decide)) ?_
    refine z_aload_n F dL_law_501 rfl ?_
    refine z_iload F dL_law_502 rfl ?_
    refine z_iconst (v := nI 2) F dL_law_504 (by decide) ?_
    refine z_iadd F dL_law_505 ?_
    refine z_sld F hSc dL_law_506 (hin 2 (by decide)) ?_
    refine z_aload_n F dL_law_507 rfl ?_
    refine z_iload F dL_law_508 rfl ?_
    refine z_iconst (v := nI 3) F dL_law_510 (by decide) ?_
    refine z_iadd F dL_law_511 ?_
    refine z_sld F hSc dL_law_512 (hin 3 (by decide)) ?_
    refine z_cVi F (m_limb _ _ _ hM hT1 hO) dL_law_513 ml_L_67 ok_X10_limb hM.1.1 (by decide) rfl rfl rfl (Nat.le_of_ble_eq_true rfl) (by decide) hg2 (fun r S' hr => ?_)
    obtain ⟨rfl, V2, T2, L2, rfl, hg9, hth, h2⟩ := hr
    rw [hx] at hth
    refine z_istore_6 F dL_law_516 rfl ?_
    refine z_aload_n F dL_law_518 rfl ?_
    refine z_cVi F (m_thrown (x := 1) hM hth) dL_law_519 ml_L_48 ok_X10_thrown hM.1.1 (by decide) rfl rfl rfl (Nat.le_of_ble_eq_true rfl) (by decide) hg3 (fun r S' hr => ?_)
    obtain ⟨rfl, rfl⟩ := hr
    refine z_iload F dL_law_522 rfl ?_
    refine z_icmp_eq (tgt := 529) F dL_law_524 (by decide) (fun _ => ?_) (fun h => absurd rfl h)
    refine z_iload F dL_law_529 rfl ?_
    refine z_if_ne (tgt := 546) F dL_law_531 (by decide) (fun _ => ?_) (fun h => absurd h (by decide))
    refine z_goto (tgt := 1165) F dL_law_546 (by decide) ?_
    refine zX_fg (pre := [some (.ref b), some (.ref G.x), some (.ref (a 0)), some (.ref oa), some (.int (nI i0))]) (suf := [_]) ?_
    refine zX_fg (pre := [some (.ref b), some (.ref G.x), some (.ref (a 0)), some (.ref oa), some (.int (nI i0)), none]) (suf := []) ?_
    exact zX_widen (by omega) (by omega) (next V2 _ ⟨h1.keep hAp hR hg9, T2, L2, h2⟩)
  · refine z_istore_5 F dL_law_492 rfl ?_
    refine z_aload_n F dL_law_494 rfl ?_
    refine z_aload_n F dL_law_495 rfl ?_
    refine z_iload F dL_law_496 rfl ?_
    refine z_iconst (v := nI 1) F dL_law_498 (by decide) ?_
    refine z_iadd F dL_law_499 ?_
    refine z_sld F hSc dL_law_500 (hin 1 (by decide)) ?_
    refine z_aload_n F dL_law_501 rfl ?_
    refine z_iload F dL_law_502 rfl ?_
    refine z_iconst (v := nI 2) F dL_law_504 (by decide) ?_
    refine z_iadd F dL_law_505 ?_
    refine z_sld F hSc dL_law_506 (hin 2 (by decide)) ?_
    refine z_aload_n F dL_law_507 rfl ?_
    refine z_iload F dL_law_508 rfl ?_
    refine z_iconst (v := nI 3) F dL_law_510 (by decide) ?_
    refine z_iadd F dL_law_511 ?_
    refine z_sld F hSc dL_law_512 (hin 3 (by decide)) ?_
    refine z_cVi F (m_limb _ _ _ hM hT1.out hO) dL_law_513 ml_L_67 ok_X10_limb hM.1.1 (by decide) rfl rfl rfl (Nat.le_of_ble_eq_true rfl) (by decide) hg2 (fun r S' hr => ?_)
    obtain ⟨rfl, V2, T2, L2, rfl, hg9, hth, h2⟩ := hr
    rw [hx] at hth
    refine z_istore_6 F dL_law_516 rfl ?_
    refine z_aload_n F dL_law_518 rfl ?_
    refine z_cVi F (m_thrown (x := 0) hM hth) dL_law_519 ml_L_48 ok_X10_thrown hM.1.1 (by decide) rfl rfl rfl (Nat.le_of_ble_eq_true rfl) (by decide) hg3 (fun r S' hr => ?_)
    obtain ⟨rfl, rfl⟩ := hr
    refine z_iload F dL_law_522 rfl ?_
    refine z_icmp_eq (tgt := 529) F dL_law_524 (by decide) (fun _ => ?_) (fun h => absurd rfl h)
    refine z_iload F dL_law_529 rfl ?_
    refine z_if_ne (tgt := 546) F dL_law_531 (by decide) (fun h => absurd rfl h) (fun _ => ?_)
    refine z_aload_n F dL_law_534 rfl ?_
    refine z_iconst (v := nI 0) F dL_law_535 (by decide) ?_
    refine z_lald F dL_law_536 ho (by rw [hn]; exact vp_in_nI (n := 0) (N := 1) (by decide) (by decide)) ?_
    refine z_tl (y := y.toInt64) (by
      show vJ V2 oa 0 = y.toInt64
      rw [hg9.2.2]
      show va_up (vJ V1) oa (vp_updL (vJ V1 oa) 0 y.toInt64) oa 0 = y.toInt64
      rw [up_self]; rfl) ?_
    refine z_iload F dL_law_537 rfl ?_
    refine z_i2l F dL_law_539 ?_
    refine z_lcmp F dL_law_540 ?_
    refine z_ti (y := 0) (by rw [hx]; exact lcmp_same _) ?_
    refine z_if_eq (tgt := 546) F dL_law_541 (by decide) (fun _ => ?_) (fun h => absurd rfl h)
    refine z_goto (tgt := 1165) F dL_law_546 (by decide) ?_
    refine zX_fg (pre := [some (.ref b), some (.ref G.x), some (.ref (a 0)), some (.ref oa), some (.int (nI i0))]) (suf := [_]) ?_
    refine zX_fg (pre := [some (.ref b), some (.ref G.x), some (.ref (a 0)), some (.ref oa), some (.int (nI i0)), none]) (suf := []) ?_
    exact zX_widen (by omega) (by omega) (next V2 _ ⟨h1.out.keep hAp hR hg9, T2, L2, h2⟩)
end CASES
