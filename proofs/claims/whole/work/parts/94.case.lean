/-! the law: one call of both -/
section LAWCASES
variable {z : hZt} {b Ls i lv c q L : Nat} {X : hXt} {M : hMem} {R : hRef} {xs : Nat → Int32}
set_option maxHeartbeats 4000000 in
set_option maxRecDepth 20000 in
theorem w_begin (hC : hOk z 0 X cL_law RL 4 10 226) (hX : va_X b Ls xs X.1.2.2.2.2.1 X.1.2.2.2.2.1.heap) (hbl : b < X.1.2.2.2.2.1.heap.size) (hLs : Ls < 2 ^ 31) (hi : i + 4 ≤ Ls) (h : Inv M R lv c q L) (kk : ∀ M2 R2 lv2 c2 q2 L2, Inv M2 R2 lv2 c2 q2 L2 → hG z 0 X 226 M2 R2 746 (lwL z b i) []) : hG z 0 X 226 M R 148 (lwL z b i) [] := by
  obtain ⟨a, M1, M2, R2, lv2, c2, q2, L2, k6, k7, hI⟩ := s_begin (l := X.1.2.1) (z := z) h (xs (i + 1))
  refine gx_aload_n (i := 1) hC dL_law_148 rfl rfl (Or.inr ⟨_, rfl⟩) ?_
  refine gx_aload_n (i := 0) hC dL_law_149 rfl rfl (Or.inr ⟨_, rfl⟩) ?_
  refine gx_iload_n (i := 3) hC dL_law_150 rfl rfl ?_
  refine gx_iconst (v := nI 1) hC dL_law_151 ic_1n ?_
  refine gx_iadd hC dL_law_152 ?_
  rw [nI_add]
  refine gx_sld hC hX hbl (show i + 1 < Ls by omega) hLs dL_law_153 ?_
  refine gx_callV1 hC dL_law_154 k6 kY_X6_begin kV_X6_begin ml_L_13 h.gs.at0 rfl (by decide) rfl rfl rfl (Nat.le_of_ble_eq_true rfl) (Nat.le_refl _) (Nat.le_refl _) ?_
  refine gx_aload_n (i := 2) hC dL_law_157 rfl rfl (Or.inr ⟨_, rfl⟩) ?_
  refine gx_aload_n (i := 0) hC dL_law_158 rfl rfl (Or.inr ⟨_, rfl⟩) ?_
  refine gx_iload_n (i := 3) hC dL_law_159 rfl rfl ?_
  refine gx_iconst (v := nI 1) hC dL_law_160 ic_1n ?_
  refine gx_iadd hC dL_law_161 ?_
  rw [nI_add]
  refine gx_sld hC hX hbl (show i + 1 < Ls by omega) hLs dL_law_162 ?_
  refine gx_callV1 hC dL_law_163 k7 kY_X7_begin kV_X7_begin ml_L_17 h.gm.at215 rfl (by decide) rfl rfl rfl (Nat.le_of_ble_eq_true rfl) (Nat.le_refl _) (Nat.le_refl _) ?_
  refine gx_icmp_eq (tgt := 746) hC dL_law_166 (by decide) (fun _ => ?_) (fun e => absurd rfl e)
  exact kk _ _ _ _ _ _ hI
set_option maxHeartbeats 4000000 in
set_option maxRecDepth 20000 in
theorem w_setLap (hC : hOk z 0 X cL_law RL 4 10 226) (hX : va_X b Ls xs X.1.2.2.2.2.1 X.1.2.2.2.2.1.heap) (hbl : b < X.1.2.2.2.2.1.heap.size) (hLs : Ls < 2 ^ 31) (hi : i + 4 ≤ Ls) (h : Inv M R lv c q L) (kk : ∀ M2 R2 lv2 c2 q2 L2, Inv M2 R2 lv2 c2 q2 L2 → hG z 0 X 226 M2 R2 746 (lwL z b i) []) : hG z 0 X 226 M R 171 (lwL z b i) [] := by
  obtain ⟨a, M1, M2, R2, lv2, c2, q2, L2, k6, k7, hI⟩ := s_setLap (l := X.1.2.1) (z := z) h (xs (i + 1))
  refine gx_aload_n (i := 1) hC dL_law_171 rfl rfl (Or.inr ⟨_, rfl⟩) ?_
  refine gx_aload_n (i := 0) hC dL_law_172 rfl rfl (Or.inr ⟨_, rfl⟩) ?_
  refine gx_iload_n (i := 3) hC dL_law_173 rfl rfl ?_
  refine gx_iconst (v := nI 1) hC dL_law_174 ic_1n ?_
  refine gx_iadd hC dL_law_175 ?_
  rw [nI_add]
  refine gx_sld hC hX hbl (show i + 1 < Ls by omega) hLs dL_law_176 ?_
  refine gx_callV1 hC dL_law_177 k6 kY_X6_setLap kV_X6_setLap ml_L_18 h.gs.at0 rfl (by decide) rfl rfl rfl (Nat.le_of_ble_eq_true rfl) (Nat.le_refl _) (Nat.le_refl _) ?_
  refine gx_aload_n (i := 2) hC dL_law_180 rfl rfl (Or.inr ⟨_, rfl⟩) ?_
  refine gx_aload_n (i := 0) hC dL_law_181 rfl rfl (Or.inr ⟨_, rfl⟩) ?_
  refine gx_iload_n (i := 3) hC dL_law_182 rfl rfl ?_
  refine gx_iconst (v := nI 1) hC dL_law_183 ic_1n ?_
  refine gx_iadd hC dL_law_184 ?_
  rw [nI_add]
  refine gx_sld hC hX hbl (show i + 1 < Ls by omega) hLs dL_law_185 ?_
  refine gx_callV1 hC dL_law_186 k7 kY_X7_setLap kV_X7_setLap ml_L_21 h.gm.at215 rfl (by decide) rfl rfl rfl (Nat.le_of_ble_eq_true rfl) (Nat.le_refl _) (Nat.le_refl _) ?_
  refine gx_icmp_eq (tgt := 746) hC dL_law_189 (by decide) (fun _ => ?_) (fun e => absurd rfl e)
  exact kk _ _ _ _ _ _ hI
set_option maxHeartbeats 4000000 in
set_option maxRecDepth 20000 in
theorem w_setLimit (hC : hOk z 0 X cL_law RL 4 10 226) (hX : va_X b Ls xs X.1.2.2.2.2.1 X.1.2.2.2.2.1.heap) (hbl : b < X.1.2.2.2.2.1.heap.size) (hLs : Ls < 2 ^ 31) (hi : i + 4 ≤ Ls) (h : Inv M R lv c q L) (kk : ∀ M2 R2 lv2 c2 q2 L2, Inv M2 R2 lv2 c2 q2 L2 → hG z 0 X 226 M2 R2 746 (lwL z b i) []) : hG z 0 X 226 M R 194 (lwL z b i) [] := by
  obtain ⟨a, M1, M2, R2, lv2, c2, q2, L2, k6, k7, hI⟩ := s_setLimit (l := X.1.2.1) (z := z) h (xs (i + 1))
  refine gx_aload_n (i := 1) hC dL_law_194 rfl rfl (Or.inr ⟨_, rfl⟩) ?_
  refine gx_aload_n (i := 0) hC dL_law_195 rfl rfl (Or.inr ⟨_, rfl⟩) ?_
  refine gx_iload_n (i := 3) hC dL_law_196 rfl rfl ?_
  refine gx_iconst (v := nI 1) hC dL_law_197 ic_1n ?_
  refine gx_iadd hC dL_law_198 ?_
  rw [nI_add]
  refine gx_sld hC hX hbl (show i + 1 < Ls by omega) hLs dL_law_199 ?_
  refine gx_callV1 hC dL_law_200 k6 kY_X6_setLimit kV_X6_setLimit ml_L_22 h.gs.at0 rfl (by decide) rfl rfl rfl (Nat.le_of_ble_eq_true rfl) (Nat.le_refl _) (Nat.le_refl _) ?_
  refine gx_aload_n (i := 2) hC dL_law_203 rfl rfl (Or.inr ⟨_, rfl⟩) ?_
  refine gx_aload_n (i := 0) hC dL_law_204 rfl rfl (Or.inr ⟨_, rfl⟩) ?_
  refine gx_iload_n (i := 3) hC dL_law_205 rfl rfl ?_
  refine gx_iconst (v := nI 1) hC dL_law_206 ic_1n ?_
  refine gx_iadd hC dL_law_207 ?_
  rw [nI_add]
  refine gx_sld hC hX hbl (show i + 1 < Ls by omega) hLs dL_law_208 ?_
  refine gx_callV1 hC dL_law_209 k7 kY_X7_setLimit kV_X7_setLimit ml_L_25 h.gm.at215 rfl (by decide) rfl rfl rfl (Nat.le_of_ble_eq_true rfl) (Nat.le_refl _) (Nat.le_refl _) ?_
  refine gx_icmp_eq (tgt := 746) hC dL_law_212 (by decide) (fun _ => ?_) (fun e => absurd rfl e)
  exact kk _ _ _ _ _ _ hI
set_option maxHeartbeats 4000000 in
set_option maxRecDepth 20000 in
theorem w_enter (hC : hOk z 0 X cL_law RL 4 10 226) (hX : va_X b Ls xs X.1.2.2.2.2.1 X.1.2.2.2.2.1.heap) (hbl : b < X.1.2.2.2.2.1.heap.size) (hLs : Ls < 2 ^ 31) (hi : i + 4 ≤ Ls) (h : Inv M R lv c q L) (kk : ∀ M2 R2 lv2 c2 q2 L2, Inv M2 R2 lv2 c2 q2 L2 → hG z 0 X 226 M2 R2 746 (lwL z b i) []) : hG z 0 X 226 M R 295 (lwL z b i) [] := by
  obtain ⟨a, M1, M2, R2, lv2, c2, q2, L2, k6, k7, hI⟩ := s_enter (l := X.1.2.1) (z := z) h (xs (i + 1)) (xs (i + 2)) (xs (i + 3))
  refine gx_aload_n (i := 1) hC dL_law_295 rfl rfl (Or.inr ⟨_, rfl⟩) ?_
  refine gx_aload_n (i := 0) hC dL_law_296 rfl rfl (Or.inr ⟨_, rfl⟩) ?_
  refine gx_iload_n (i := 3) hC dL_law_297 rfl rfl ?_
  refine gx_iconst (v := nI 1) hC dL_law_298 ic_1n ?_
  refine gx_iadd hC dL_law_299 ?_
  rw [nI_add]
  refine gx_sld hC hX hbl (show i + 1 < Ls by omega) hLs dL_law_300 ?_
  refine gx_aload_n (i := 0) hC dL_law_301 rfl rfl (Or.inr ⟨_, rfl⟩) ?_
  refine gx_iload_n (i := 3) hC dL_law_302 rfl rfl ?_
  refine gx_iconst (v := nI 2) hC dL_law_303 ic_2n ?_
  refine gx_iadd hC dL_law_304 ?_
  rw [nI_add]
  refine gx_sld hC hX hbl (show i + 2 < Ls by omega) hLs dL_law_305 ?_
  refine gx_aload_n (i := 0) hC dL_law_306 rfl rfl (Or.inr ⟨_, rfl⟩) ?_
  refine gx_iload_n (i := 3) hC dL_law_307 rfl rfl ?_
  refine gx_iconst (v := nI 3) hC dL_law_308 ic_3n ?_
  refine gx_iadd hC dL_law_309 ?_
  rw [nI_add]
  refine gx_sld hC hX hbl (show i + 3 < Ls by omega) hLs dL_law_310 ?_
  refine gx_callV1 hC dL_law_311 k6 kY_X6_enter kV_X6_enter ml_L_35 h.gs.at0 rfl (by decide) rfl rfl rfl (Nat.le_of_ble_eq_true rfl) (Nat.le_refl _) (Nat.le_refl _) ?_
  refine gx_aload_n (i := 2) hC dL_law_314 rfl rfl (Or.inr ⟨_, rfl⟩) ?_
  refine gx_aload_n (i := 0) hC dL_law_315 rfl rfl (Or.inr ⟨_, rfl⟩) ?_
  refine gx_iload_n (i := 3) hC dL_law_316 rfl rfl ?_
  refine gx_iconst (v := nI 1) hC dL_law_317 ic_1n ?_
  refine gx_iadd hC dL_law_318 ?_
  rw [nI_add]
  refine gx_sld hC hX hbl (show i + 1 < Ls by omega) hLs dL_law_319 ?_
  refine gx_aload_n (i := 0) hC dL_law_320 rfl rfl (Or.inr ⟨_, rfl⟩) ?_
  refine gx_iload_n (i := 3) hC dL_law_321 rfl rfl ?_
  refine gx_iconst (v := nI 2) hC dL_law_322 ic_2n ?_
  refine gx_iadd hC dL_law_323 ?_
  rw [nI_add]
  refine gx_sld hC hX hbl (show i + 2 < Ls by omega) hLs dL_law_324 ?_
  refine gx_aload_n (i := 0) hC dL_law_325 rfl rfl (Or.inr ⟨_, rfl⟩) ?_
  refine gx_iload_n (i := 3) hC dL_law_326 rfl rfl ?_
  refine gx_iconst (v := nI 3) hC dL_law_327 ic_3n ?_
  refine gx_iadd hC dL_law_328 ?_
  rw [nI_add]
  refine gx_sld hC hX hbl (show i + 3 < Ls by omega) hLs dL_law_329 ?_
  refine gx_callV1 hC dL_law_330 k7 kY_X7_enter kV_X7_enter ml_L_39 h.gm.at215 rfl (by decide) rfl rfl rfl (Nat.le_of_ble_eq_true rfl) (Nat.le_refl _) (Nat.le_refl _) ?_
  refine gx_icmp_eq (tgt := 746) hC dL_law_333 (by decide) (fun _ => ?_) (fun e => absurd rfl e)
  exact kk _ _ _ _ _ _ hI
set_option maxHeartbeats 4000000 in
set_option maxRecDepth 20000 in
theorem w_call (hC : hOk z 0 X cL_law RL 4 10 226) (hX : va_X b Ls xs X.1.2.2.2.2.1 X.1.2.2.2.2.1.heap) (hbl : b < X.1.2.2.2.2.1.heap.size) (hLs : Ls < 2 ^ 31) (hi : i + 4 ≤ Ls) (h : Inv M R lv c q L) (kk : ∀ M2 R2 lv2 c2 q2 L2, Inv M2 R2 lv2 c2 q2 L2 → hG z 0 X 226 M2 R2 746 (lwL z b i) []) : hG z 0 X 226 M R 338 (lwL z b i) [] := by
  obtain ⟨a, M1, M2, R2, lv2, c2, q2, L2, k6, k7, hI⟩ := s_call (l := X.1.2.1) (z := z) h (xs (i + 1))
  refine gx_aload_n (i := 1) hC dL_law_338 rfl rfl (Or.inr ⟨_, rfl⟩) ?_
  refine gx_aload_n (i := 0) hC dL_law_339 rfl rfl (Or.inr ⟨_, rfl⟩) ?_
  refine gx_iload_n (i := 3) hC dL_law_340 rfl rfl ?_
  refine gx_iconst (v := nI 1) hC dL_law_341 ic_1n ?_
  refine gx_iadd hC dL_law_342 ?_
  rw [nI_add]
  refine gx_sld hC hX hbl (show i + 1 < Ls by omega) hLs dL_law_343 ?_
  refine gx_callV1 hC dL_law_344 k6 kY_X6_call kV_X6_call ml_L_40 h.gs.at0 rfl (by decide) rfl rfl rfl (Nat.le_of_ble_eq_true rfl) (Nat.le_refl _) (Nat.le_refl _) ?_
  refine gx_aload_n (i := 2) hC dL_law_347 rfl rfl (Or.inr ⟨_, rfl⟩) ?_
  refine gx_aload_n (i := 0) hC dL_law_348 rfl rfl (Or.inr ⟨_, rfl⟩) ?_
  refine gx_iload_n (i := 3) hC dL_law_349 rfl rfl ?_
  refine gx_iconst (v := nI 1) hC dL_law_350 ic_1n ?_
  refine gx_iadd hC dL_law_351 ?_
  rw [nI_add]
  refine gx_sld hC hX hbl (show i + 1 < Ls by omega) hLs dL_law_352 ?_
  refine gx_callV1 hC dL_law_353 k7 kY_X7_call kV_X7_call ml_L_43 h.gm.at215 rfl (by decide) rfl rfl rfl (Nat.le_of_ble_eq_true rfl) (Nat.le_refl _) (Nat.le_refl _) ?_
  refine gx_icmp_eq (tgt := 746) hC dL_law_356 (by decide) (fun _ => ?_) (fun e => absurd rfl e)
  exact kk _ _ _ _ _ _ hI
set_option maxHeartbeats 4000000 in
set_option maxRecDepth 20000 in
theorem w_pass (hC : hOk z 0 X cL_law RL 4 10 226) (hX : va_X b Ls xs X.1.2.2.2.2.1 X.1.2.2.2.2.1.heap) (hbl : b < X.1.2.2.2.2.1.heap.size) (hLs : Ls < 2 ^ 31) (hi : i + 4 ≤ Ls) (h : Inv M R lv c q L) (kk : ∀ M2 R2 lv2 c2 q2 L2, Inv M2 R2 lv2 c2 q2 L2 → hG z 0 X 226 M2 R2 746 (lwL z b i) []) : hG z 0 X 226 M R 361 (lwL z b i) [] := by
  obtain ⟨a, M1, M2, R2, lv2, c2, q2, L2, k6, k7, hI⟩ := s_pass (l := X.1.2.1) (z := z) h (xs (i + 1))
  refine gx_aload_n (i := 1) hC dL_law_361 rfl rfl (Or.inr ⟨_, rfl⟩) ?_
  refine gx_aload_n (i := 0) hC dL_law_362 rfl rfl (Or.inr ⟨_, rfl⟩) ?_
  refine gx_iload_n (i := 3) hC dL_law_363 rfl rfl ?_
  refine gx_iconst (v := nI 1) hC dL_law_364 ic_1n ?_
  refine gx_iadd hC dL_law_365 ?_
  rw [nI_add]
  refine gx_sld hC hX hbl (show i + 1 < Ls by omega) hLs dL_law_366 ?_
  refine gx_callV1 hC dL_law_367 k6 kY_X6_pass kV_X6_pass ml_L_44 h.gs.at0 rfl (by decide) rfl rfl rfl (Nat.le_of_ble_eq_true rfl) (Nat.le_refl _) (Nat.le_refl _) ?_
  refine gx_aload_n (i := 2) hC dL_law_370 rfl rfl (Or.inr ⟨_, rfl⟩) ?_
  refine gx_aload_n (i := 0) hC dL_law_371 rfl rfl (Or.inr ⟨_, rfl⟩) ?_
  refine gx_iload_n (i := 3) hC dL_law_372 rfl rfl ?_
  refine gx_iconst (v := nI 1) hC dL_law_373 ic_1n ?_
  refine gx_iadd hC dL_law_374 ?_
  rw [nI_add]
  refine gx_sld hC hX hbl (show i + 1 < Ls by omega) hLs dL_law_375 ?_
  refine gx_callV1 hC dL_law_376 k7 kY_X7_pass kV_X7_pass ml_L_47 h.gm.at215 rfl (by decide) rfl rfl rfl (Nat.le_of_ble_eq_true rfl) (Nat.le_refl _) (Nat.le_refl _) ?_
  refine gx_icmp_eq (tgt := 746) hC dL_law_379 (by decide) (fun _ => ?_) (fun e => absurd rfl e)
  exact kk _ _ _ _ _ _ hI
set_option maxHeartbeats 4000000 in
set_option maxRecDepth 20000 in
theorem w_level (hC : hOk z 0 X cL_law RL 4 10 226) (hX : va_X b Ls xs X.1.2.2.2.2.1 X.1.2.2.2.2.1.heap) (hbl : b < X.1.2.2.2.2.1.heap.size) (hLs : Ls < 2 ^ 31) (hi : i + 4 ≤ Ls) (h : Inv M R lv c q L) (kk : ∀ M2 R2 lv2 c2 q2 L2, Inv M2 R2 lv2 c2 q2 L2 → hG z 0 X 226 M2 R2 746 (lwL z b i) []) : hG z 0 X 226 M R 384 (lwL z b i) [] := by
  obtain ⟨a, M1, M2, R2, lv2, c2, q2, L2, k6, k7, hI⟩ := s_level (l := X.1.2.1) (z := z) h (xs (i + 1))
  refine gx_aload_n (i := 1) hC dL_law_384 rfl rfl (Or.inr ⟨_, rfl⟩) ?_
  refine gx_aload_n (i := 0) hC dL_law_385 rfl rfl (Or.inr ⟨_, rfl⟩) ?_
  refine gx_iload_n (i := 3) hC dL_law_386 rfl rfl ?_
  refine gx_iconst (v := nI 1) hC dL_law_387 ic_1n ?_
  refine gx_iadd hC dL_law_388 ?_
  rw [nI_add]
  refine gx_sld hC hX hbl (show i + 1 < Ls by omega) hLs dL_law_389 ?_
  refine gx_callV1 hC dL_law_390 k6 kY_X6_level kV_X6_level ml_L_48 h.gs.at0 rfl (by decide) rfl rfl rfl (Nat.le_of_ble_eq_true rfl) (Nat.le_refl _) (Nat.le_refl _) ?_
  refine gx_aload_n (i := 2) hC dL_law_393 rfl rfl (Or.inr ⟨_, rfl⟩) ?_
  refine gx_aload_n (i := 0) hC dL_law_394 rfl rfl (Or.inr ⟨_, rfl⟩) ?_
  refine gx_iload_n (i := 3) hC dL_law_395 rfl rfl ?_
  refine gx_iconst (v := nI 1) hC dL_law_396 ic_1n ?_
  refine gx_iadd hC dL_law_397 ?_
  rw [nI_add]
  refine gx_sld hC hX hbl (show i + 1 < Ls by omega) hLs dL_law_398 ?_
  refine gx_callV1 hC dL_law_399 k7 kY_X7_level kV_X7_level ml_L_51 h.gm.at215 rfl (by decide) rfl rfl rfl (Nat.le_of_ble_eq_true rfl) (Nat.le_refl _) (Nat.le_refl _) ?_
  refine gx_icmp_eq (tgt := 746) hC dL_law_402 (by decide) (fun _ => ?_) (fun e => absurd rfl e)
  exact kk _ _ _ _ _ _ hI
set_option maxHeartbeats 4000000 in
set_option maxRecDepth 20000 in
theorem w_aircraft (hC : hOk z 0 X cL_law RL 4 10 226) (hX : va_X b Ls xs X.1.2.2.2.2.1 X.1.2.2.2.2.1.heap) (hbl : b < X.1.2.2.2.2.1.heap.size) (hLs : Ls < 2 ^ 31) (hi : i + 4 ≤ Ls) (h : Inv M R lv c q L) (kk : ∀ M2 R2 lv2 c2 q2 L2, Inv M2 R2 lv2 c2 q2 L2 → hG z 0 X 226 M2 R2 746 (lwL z b i) []) : hG z 0 X 226 M R 407 (lwL z b i) [] := by
  obtain ⟨a, M1, M2, R2, lv2, c2, q2, L2, k6, k7, hI⟩ := s_aircraft (l := X.1.2.1) (z := z) h (xs (i + 1)) (xs (i + 2))
  refine gx_aload_n (i := 1) hC dL_law_407 rfl rfl (Or.inr ⟨_, rfl⟩) ?_
  refine gx_aload_n (i := 0) hC dL_law_408 rfl rfl (Or.inr ⟨_, rfl⟩) ?_
  refine gx_iload_n (i := 3) hC dL_law_409 rfl rfl ?_
  refine gx_iconst (v := nI 1) hC dL_law_410 ic_1n ?_
  refine gx_iadd hC dL_law_411 ?_
  rw [nI_add]
  refine gx_sld hC hX hbl (show i + 1 < Ls by omega) hLs dL_law_412 ?_
  refine gx_aload_n (i := 0) hC dL_law_413 rfl rfl (Or.inr ⟨_, rfl⟩) ?_
  refine gx_iload_n (i := 3) hC dL_law_414 rfl rfl ?_
  refine gx_iconst (v := nI 2) hC dL_law_415 ic_2n ?_
  refine gx_iadd hC dL_law_416 ?_
  rw [nI_add]
  refine gx_sld hC hX hbl (show i + 2 < Ls by omega) hLs dL_law_417 ?_
  refine gx_callV1 hC dL_law_418 k6 kY_X6_aircraft kV_X6_aircraft ml_L_52 h.gs.at0 rfl (by decide) rfl rfl rfl (Nat.le_of_ble_eq_true rfl) (Nat.le_refl _) (Nat.le_refl _) ?_
  refine gx_aload_n (i := 2) hC dL_law_421 rfl rfl (Or.inr ⟨_, rfl⟩) ?_
  refine gx_aload_n (i := 0) hC dL_law_422 rfl rfl (Or.inr ⟨_, rfl⟩) ?_
  refine gx_iload_n (i := 3) hC dL_law_423 rfl rfl ?_
  refine gx_iconst (v := nI 1) hC dL_law_424 ic_1n ?_
  refine gx_iadd hC dL_law_425 ?_
  rw [nI_add]
  refine gx_sld hC hX hbl (show i + 1 < Ls by omega) hLs dL_law_426 ?_
  refine gx_aload_n (i := 0) hC dL_law_427 rfl rfl (Or.inr ⟨_, rfl⟩) ?_
  refine gx_iload_n (i := 3) hC dL_law_428 rfl rfl ?_
  refine gx_iconst (v := nI 2) hC dL_law_429 ic_2n ?_
  refine gx_iadd hC dL_law_430 ?_
  rw [nI_add]
  refine gx_sld hC hX hbl (show i + 2 < Ls by omega) hLs dL_law_431 ?_
  refine gx_callV1 hC dL_law_432 k7 kY_X7_aircraft kV_X7_aircraft ml_L_56 h.gm.at215 rfl (by decide) rfl rfl rfl (Nat.le_of_ble_eq_true rfl) (Nat.le_refl _) (Nat.le_refl _) ?_
  refine gx_icmp_eq (tgt := 746) hC dL_law_435 (by decide) (fun _ => ?_) (fun e => absurd rfl e)
  exact kk _ _ _ _ _ _ hI
set_option maxHeartbeats 4000000 in
set_option maxRecDepth 20000 in
theorem w_tell (hC : hOk z 0 X cL_law RL 4 10 226) (hX : va_X b Ls xs X.1.2.2.2.2.1 X.1.2.2.2.2.1.heap) (hbl : b < X.1.2.2.2.2.1.heap.size) (hLs : Ls < 2 ^ 31) (hi : i + 4 ≤ Ls) (h : Inv M R lv c q L) (kk : ∀ M2 R2 lv2 c2 q2 L2, Inv M2 R2 lv2 c2 q2 L2 → hG z 0 X 226 M2 R2 746 (lwL z b i) []) : hG z 0 X 226 M R 440 (lwL z b i) [] := by
  obtain ⟨a, M1, M2, R2, lv2, c2, q2, L2, k6, k7, hI⟩ := s_tell (l := X.1.2.1) (z := z) h (xs (i + 1))
  refine gx_aload_n (i := 1) hC dL_law_440 rfl rfl (Or.inr ⟨_, rfl⟩) ?_
  refine gx_aload_n (i := 0) hC dL_law_441 rfl rfl (Or.inr ⟨_, rfl⟩) ?_
  refine gx_iload_n (i := 3) hC dL_law_442 rfl rfl ?_
  refine gx_iconst (v := nI 1) hC dL_law_443 ic_1n ?_
  refine gx_iadd hC dL_law_444 ?_
  rw [nI_add]
  refine gx_sld hC hX hbl (show i + 1 < Ls by omega) hLs dL_law_445 ?_
  refine gx_callV1 hC dL_law_446 k6 kY_X6_tell kV_X6_tell ml_L_57 h.gs.at0 rfl (by decide) rfl rfl rfl (Nat.le_of_ble_eq_true rfl) (Nat.le_refl _) (Nat.le_refl _) ?_
  refine gx_aload_n (i := 2) hC dL_law_449 rfl rfl (Or.inr ⟨_, rfl⟩) ?_
  refine gx_aload_n (i := 0) hC dL_law_450 rfl rfl (Or.inr ⟨_, rfl⟩) ?_
  refine gx_iload_n (i := 3) hC dL_law_451 rfl rfl ?_
  refine gx_iconst (v := nI 1) hC dL_law_452 ic_1n ?_
  refine gx_iadd hC dL_law_453 ?_
  rw [nI_add]
  refine gx_sld hC hX hbl (show i + 1 < Ls by omega) hLs dL_law_454 ?_
  refine gx_callV1 hC dL_law_455 k7 kY_X7_tell kV_X7_tell ml_L_60 h.gm.at215 rfl (by decide) rfl rfl rfl (Nat.le_of_ble_eq_true rfl) (Nat.le_refl _) (Nat.le_refl _) ?_
  refine gx_icmp_eq (tgt := 746) hC dL_law_458 (by decide) (fun _ => ?_) (fun e => absurd rfl e)
  exact kk _ _ _ _ _ _ hI
set_option maxHeartbeats 4000000 in
set_option maxRecDepth 20000 in
theorem w_why (hC : hOk z 0 X cL_law RL 4 10 226) (hX : va_X b Ls xs X.1.2.2.2.2.1 X.1.2.2.2.2.1.heap) (hbl : b < X.1.2.2.2.2.1.heap.size) (hLs : Ls < 2 ^ 31) (hi : i + 4 ≤ Ls) (h : Inv M R lv c q L) (kk : ∀ M2 R2 lv2 c2 q2 L2, Inv M2 R2 lv2 c2 q2 L2 → hG z 0 X 226 M2 R2 746 (lwL z b i) []) : hG z 0 X 226 M R 463 (lwL z b i) [] := by
  obtain ⟨a, M1, M2, R2, lv2, c2, q2, L2, k6, k7, hI⟩ := s_why (l := X.1.2.1) (z := z) h (xs (i + 1))
  refine gx_aload_n (i := 1) hC dL_law_463 rfl rfl (Or.inr ⟨_, rfl⟩) ?_
  refine gx_aload_n (i := 0) hC dL_law_464 rfl rfl (Or.inr ⟨_, rfl⟩) ?_
  refine gx_iload_n (i := 3) hC dL_law_465 rfl rfl ?_
  refine gx_iconst (v := nI 1) hC dL_law_466 ic_1n ?_
  refine gx_iadd hC dL_law_467 ?_
  rw [nI_add]
  refine gx_sld hC hX hbl (show i + 1 < Ls by omega) hLs dL_law_468 ?_
  refine gx_callV1 hC dL_law_469 k6 kY_X6_why kV_X6_why ml_L_61 h.gs.at0 rfl (by decide) rfl rfl rfl (Nat.le_of_ble_eq_true rfl) (Nat.le_refl _) (Nat.le_refl _) ?_
  refine gx_aload_n (i := 2) hC dL_law_472 rfl rfl (Or.inr ⟨_, rfl⟩) ?_
  refine gx_aload_n (i := 0) hC dL_law_473 rfl rfl (Or.inr ⟨_, rfl⟩) ?_
  refine gx_iload_n (i := 3) hC dL_law_474 rfl rfl ?_
  refine gx_iconst (v := nI 1) hC dL_law_475 ic_1n ?_
  refine gx_iadd hC dL_law_476 ?_
  rw [nI_add]
  refine gx_sld hC hX hbl (show i + 1 < Ls by omega) hLs dL_law_477 ?_
  refine gx_callV1 hC dL_law_478 k7 kY_X7_why kV_X7_why ml_L_64 h.gm.at215 rfl (by decide) rfl rfl rfl (Nat.le_of_ble_eq_true rfl) (Nat.le_refl _) (Nat.le_refl _) ?_
  refine gx_icmp_eq (tgt := 746) hC dL_law_481 (by decide) (fun _ => ?_) (fun e => absurd rfl e)
  exact kk _ _ _ _ _ _ hI
set_option maxHeartbeats 4000000 in
set_option maxRecDepth 20000 in
theorem w_minutesLeft (hC : hOk z 0 X cL_law RL 4 10 226) (hX : va_X b Ls xs X.1.2.2.2.2.1 X.1.2.2.2.2.1.heap) (hbl : b < X.1.2.2.2.2.1.heap.size) (hLs : Ls < 2 ^ 31) (hi : i + 4 ≤ Ls) (h : Inv M R lv c q L) (kk : ∀ M2 R2 lv2 c2 q2 L2, Inv M2 R2 lv2 c2 q2 L2 → hG z 0 X 226 M2 R2 746 (lwL z b i) []) : hG z 0 X 226 M R 486 (lwL z b i) [] := by
  obtain ⟨a, M1, M2, R2, lv2, c2, q2, L2, k6, k7, hI⟩ := s_minutesLeft (l := X.1.2.1) (z := z) h (xs (i + 1))
  refine gx_aload_n (i := 1) hC dL_law_486 rfl rfl (Or.inr ⟨_, rfl⟩) ?_
  refine gx_aload_n (i := 0) hC dL_law_487 rfl rfl (Or.inr ⟨_, rfl⟩) ?_
  refine gx_iload_n (i := 3) hC dL_law_488 rfl rfl ?_
  refine gx_iconst (v := nI 1) hC dL_law_489 ic_1n ?_
  refine gx_iadd hC dL_law_490 ?_
  rw [nI_add]
  refine gx_sld hC hX hbl (show i + 1 < Ls by omega) hLs dL_law_491 ?_
  refine gx_callV1 hC dL_law_492 k6 kY_X6_minutesLeft kV_X6_minutesLeft ml_L_65 h.gs.at0 rfl (by decide) rfl rfl rfl (Nat.le_of_ble_eq_true rfl) (Nat.le_refl _) (Nat.le_refl _) ?_
  refine gx_aload_n (i := 2) hC dL_law_495 rfl rfl (Or.inr ⟨_, rfl⟩) ?_
  refine gx_aload_n (i := 0) hC dL_law_496 rfl rfl (Or.inr ⟨_, rfl⟩) ?_
  refine gx_iload_n (i := 3) hC dL_law_497 rfl rfl ?_
  refine gx_iconst (v := nI 1) hC dL_law_498 ic_1n ?_
  refine gx_iadd hC dL_law_499 ?_
  rw [nI_add]
  refine gx_sld hC hX hbl (show i + 1 < Ls by omega) hLs dL_law_500 ?_
  refine gx_callV1 hC dL_law_501 k7 kY_X7_minutesLeft kV_X7_minutesLeft ml_L_68 h.gm.at215 rfl (by decide) rfl rfl rfl (Nat.le_of_ble_eq_true rfl) (Nat.le_refl _) (Nat.le_refl _) ?_
  refine gx_icmp_eq (tgt := 746) hC dL_law_504 (by decide) (fun _ => ?_) (fun e => absurd rfl e)
  exact kk _ _ _ _ _ _ hI
set_option maxHeartbeats 4000000 in
set_option maxRecDepth 20000 in
theorem w_landsWith (hC : hOk z 0 X cL_law RL 4 10 226) (hX : va_X b Ls xs X.1.2.2.2.2.1 X.1.2.2.2.2.1.heap) (hbl : b < X.1.2.2.2.2.1.heap.size) (hLs : Ls < 2 ^ 31) (hi : i + 4 ≤ Ls) (h : Inv M R lv c q L) (kk : ∀ M2 R2 lv2 c2 q2 L2, Inv M2 R2 lv2 c2 q2 L2 → hG z 0 X 226 M2 R2 746 (lwL z b i) []) : hG z 0 X 226 M R 509 (lwL z b i) [] := by
  obtain ⟨a, M1, M2, R2, lv2, c2, q2, L2, k6, k7, hI⟩ := s_landsWith (l := X.1.2.1) (z := z) h (xs (i + 1))
  refine gx_aload_n (i := 1) hC dL_law_509 rfl rfl (Or.inr ⟨_, rfl⟩) ?_
  refine gx_aload_n (i := 0) hC dL_law_510 rfl rfl (Or.inr ⟨_, rfl⟩) ?_
  refine gx_iload_n (i := 3) hC dL_law_511 rfl rfl ?_
  refine gx_iconst (v := nI 1) hC dL_law_512 ic_1n ?_
  refine gx_iadd hC dL_law_513 ?_
  rw [nI_add]
  refine gx_sld hC hX hbl (show i + 1 < Ls by omega) hLs dL_law_514 ?_
  refine gx_callV1 hC dL_law_515 k6 kY_X6_landsWith kV_X6_landsWith ml_L_69 h.gs.at0 rfl (by decide) rfl rfl rfl (Nat.le_of_ble_eq_true rfl) (Nat.le_refl _) (Nat.le_refl _) ?_
  refine gx_aload_n (i := 2) hC dL_law_518 rfl rfl (Or.inr ⟨_, rfl⟩) ?_
  refine gx_aload_n (i := 0) hC dL_law_519 rfl rfl (Or.inr ⟨_, rfl⟩) ?_
  refine gx_iload_n (i := 3) hC dL_law_520 rfl rfl ?_
  refine gx_iconst (v := nI 1) hC dL_law_521 ic_1n ?_
  refine gx_iadd hC dL_law_522 ?_
  rw [nI_add]
  refine gx_sld hC hX hbl (show i + 1 < Ls by omega) hLs dL_law_523 ?_
  refine gx_callV1 hC dL_law_524 k7 kY_X7_landsWith kV_X7_landsWith ml_L_72 h.gm.at215 rfl (by decide) rfl rfl rfl (Nat.le_of_ble_eq_true rfl) (Nat.le_refl _) (Nat.le_refl _) ?_
  refine gx_icmp_eq (tgt := 746) hC dL_law_527 (by decide) (fun _ => ?_) (fun e => absurd rfl e)
  exact kk _ _ _ _ _ _ hI
set_option maxHeartbeats 4000000 in
set_option maxRecDepth 20000 in
theorem w_endurance (hC : hOk z 0 X cL_law RL 4 10 226) (hX : va_X b Ls xs X.1.2.2.2.2.1 X.1.2.2.2.2.1.heap) (hbl : b < X.1.2.2.2.2.1.heap.size) (hLs : Ls < 2 ^ 31) (hi : i + 4 ≤ Ls) (h : Inv M R lv c q L) (kk : ∀ M2 R2 lv2 c2 q2 L2, Inv M2 R2 lv2 c2 q2 L2 → hG z 0 X 226 M2 R2 746 (lwL z b i) []) : hG z 0 X 226 M R 532 (lwL z b i) [] := by
  obtain ⟨a, M1, M2, R2, lv2, c2, q2, L2, k6, k7, hI⟩ := s_endurance (l := X.1.2.1) (z := z) h (xs (i + 1))
  refine gx_aload_n (i := 1) hC dL_law_532 rfl rfl (Or.inr ⟨_, rfl⟩) ?_
  refine gx_aload_n (i := 0) hC dL_law_533 rfl rfl (Or.inr ⟨_, rfl⟩) ?_
  refine gx_iload_n (i := 3) hC dL_law_534 rfl rfl ?_
  refine gx_iconst (v := nI 1) hC dL_law_535 ic_1n ?_
  refine gx_iadd hC dL_law_536 ?_
  rw [nI_add]
  refine gx_sld hC hX hbl (show i + 1 < Ls by omega) hLs dL_law_537 ?_
  refine gx_callV1 hC dL_law_538 k6 kY_X6_endurance kV_X6_endurance ml_L_73 h.gs.at0 rfl (by decide) rfl rfl rfl (Nat.le_of_ble_eq_true rfl) (Nat.le_refl _) (Nat.le_refl _) ?_
  refine gx_aload_n (i := 2) hC dL_law_541 rfl rfl (Or.inr ⟨_, rfl⟩) ?_
  refine gx_aload_n (i := 0) hC dL_law_542 rfl rfl (Or.inr ⟨_, rfl⟩) ?_
  refine gx_iload_n (i := 3) hC dL_law_543 rfl rfl ?_
  refine gx_iconst (v := nI 1) hC dL_law_544 ic_1n ?_
  refine gx_iadd hC dL_law_545 ?_
  rw [nI_add]
  refine gx_sld hC hX hbl (show i + 1 < Ls by omega) hLs dL_law_546 ?_
  refine gx_callV1 hC dL_law_547 k7 kY_X7_endurance kV_X7_endurance ml_L_76 h.gm.at215 rfl (by decide) rfl rfl rfl (Nat.le_of_ble_eq_true rfl) (Nat.le_refl _) (Nat.le_refl _) ?_
  refine gx_icmp_eq (tgt := 746) hC dL_law_550 (by decide) (fun _ => ?_) (fun e => absurd rfl e)
  exact kk _ _ _ _ _ _ hI
set_option maxHeartbeats 4000000 in
set_option maxRecDepth 20000 in
theorem w_bestLevel (hC : hOk z 0 X cL_law RL 4 10 226) (hX : va_X b Ls xs X.1.2.2.2.2.1 X.1.2.2.2.2.1.heap) (hbl : b < X.1.2.2.2.2.1.heap.size) (hLs : Ls < 2 ^ 31) (hi : i + 4 ≤ Ls) (h : Inv M R lv c q L) (kk : ∀ M2 R2 lv2 c2 q2 L2, Inv M2 R2 lv2 c2 q2 L2 → hG z 0 X 226 M2 R2 746 (lwL z b i) []) : hG z 0 X 226 M R 555 (lwL z b i) [] := by
  obtain ⟨a, M1, M2, R2, lv2, c2, q2, L2, k6, k7, hI⟩ := s_bestLevel (l := X.1.2.1) (z := z) h (xs (i + 1)) (xs (i + 2))
  refine gx_aload_n (i := 1) hC dL_law_555 rfl rfl (Or.inr ⟨_, rfl⟩) ?_
  refine gx_aload_n (i := 0) hC dL_law_556 rfl rfl (Or.inr ⟨_, rfl⟩) ?_
  refine gx_iload_n (i := 3) hC dL_law_557 rfl rfl ?_
  refine gx_iconst (v := nI 1) hC dL_law_558 ic_1n ?_
  refine gx_iadd hC dL_law_559 ?_
  rw [nI_add]
  refine gx_sld hC hX hbl (show i + 1 < Ls by omega) hLs dL_law_560 ?_
  refine gx_aload_n (i := 0) hC dL_law_561 rfl rfl (Or.inr ⟨_, rfl⟩) ?_
  refine gx_iload_n (i := 3) hC dL_law_562 rfl rfl ?_
  refine gx_iconst (v := nI 2) hC dL_law_563 ic_2n ?_
  refine gx_iadd hC dL_law_564 ?_
  rw [nI_add]
  refine gx_sld hC hX hbl (show i + 2 < Ls by omega) hLs dL_law_565 ?_
  refine gx_callV1 hC dL_law_566 k6 kY_X6_bestLevel kV_X6_bestLevel ml_L_77 h.gs.at0 rfl (by decide) rfl rfl rfl (Nat.le_of_ble_eq_true rfl) (Nat.le_refl _) (Nat.le_refl _) ?_
  refine gx_aload_n (i := 2) hC dL_law_569 rfl rfl (Or.inr ⟨_, rfl⟩) ?_
  refine gx_aload_n (i := 0) hC dL_law_570 rfl rfl (Or.inr ⟨_, rfl⟩) ?_
  refine gx_iload_n (i := 3) hC dL_law_571 rfl rfl ?_
  refine gx_iconst (v := nI 1) hC dL_law_572 ic_1n ?_
  refine gx_iadd hC dL_law_573 ?_
  rw [nI_add]
  refine gx_sld hC hX hbl (show i + 1 < Ls by omega) hLs dL_law_574 ?_
  refine gx_aload_n (i := 0) hC dL_law_575 rfl rfl (Or.inr ⟨_, rfl⟩) ?_
  refine gx_iload_n (i := 3) hC dL_law_576 rfl rfl ?_
  refine gx_iconst (v := nI 2) hC dL_law_577 ic_2n ?_
  refine gx_iadd hC dL_law_578 ?_
  rw [nI_add]
  refine gx_sld hC hX hbl (show i + 2 < Ls by omega) hLs dL_law_579 ?_
  refine gx_callV1 hC dL_law_580 k7 kY_X7_bestLevel kV_X7_bestLevel ml_L_80 h.gm.at215 rfl (by decide) rfl rfl rfl (Nat.le_of_ble_eq_true rfl) (Nat.le_refl _) (Nat.le_refl _) ?_
  refine gx_icmp_eq (tgt := 746) hC dL_law_583 (by decide) (fun _ => ?_) (fun e => absurd rfl e)
  exact kk _ _ _ _ _ _ hI
set_option maxHeartbeats 4000000 in
set_option maxRecDepth 20000 in
theorem w_lands (hC : hOk z 0 X cL_law RL 4 10 226) (hX : va_X b Ls xs X.1.2.2.2.2.1 X.1.2.2.2.2.1.heap) (hbl : b < X.1.2.2.2.2.1.heap.size) (hLs : Ls < 2 ^ 31) (hi : i + 4 ≤ Ls) (h : Inv M R lv c q L) (kk : ∀ M2 R2 lv2 c2 q2 L2, Inv M2 R2 lv2 c2 q2 L2 → hG z 0 X 226 M2 R2 746 (lwL z b i) []) : hG z 0 X 226 M R 588 (lwL z b i) [] := by
  obtain ⟨a, M1, M2, R2, lv2, c2, q2, L2, k6, k7, hI⟩ := s_lands (l := X.1.2.1) (z := z) h (xs (i + 1))
  refine gx_aload_n (i := 1) hC dL_law_588 rfl rfl (Or.inr ⟨_, rfl⟩) ?_
  refine gx_aload_n (i := 0) hC dL_law_589 rfl rfl (Or.inr ⟨_, rfl⟩) ?_
  refine gx_iload_n (i := 3) hC dL_law_590 rfl rfl ?_
  refine gx_iconst (v := nI 1) hC dL_law_591 ic_1n ?_
  refine gx_iadd hC dL_law_592 ?_
  rw [nI_add]
  refine gx_sld hC hX hbl (show i + 1 < Ls by omega) hLs dL_law_593 ?_
  refine gx_callV1 hC dL_law_594 k6 kY_X6_lands kV_X6_lands ml_L_81 h.gs.at0 rfl (by decide) rfl rfl rfl (Nat.le_of_ble_eq_true rfl) (Nat.le_refl _) (Nat.le_refl _) ?_
  refine gx_aload_n (i := 2) hC dL_law_597 rfl rfl (Or.inr ⟨_, rfl⟩) ?_
  refine gx_aload_n (i := 0) hC dL_law_598 rfl rfl (Or.inr ⟨_, rfl⟩) ?_
  refine gx_iload_n (i := 3) hC dL_law_599 rfl rfl ?_
  refine gx_iconst (v := nI 1) hC dL_law_600 ic_1n ?_
  refine gx_iadd hC dL_law_601 ?_
  rw [nI_add]
  refine gx_sld hC hX hbl (show i + 1 < Ls by omega) hLs dL_law_602 ?_
  refine gx_callV1 hC dL_law_603 k7 kY_X7_lands kV_X7_lands ml_L_84 h.gm.at215 rfl (by decide) rfl rfl rfl (Nat.le_of_ble_eq_true rfl) (Nat.le_refl _) (Nat.le_refl _) ?_
  refine gx_icmp_eq (tgt := 746) hC dL_law_606 (by decide) (fun _ => ?_) (fun e => absurd rfl e)
  exact kk _ _ _ _ _ _ hI
set_option maxHeartbeats 4000000 in
set_option maxRecDepth 20000 in
theorem w_append (hC : hOk z 0 X cL_law RL 4 10 226) (hX : va_X b Ls xs X.1.2.2.2.2.1 X.1.2.2.2.2.1.heap) (hbl : b < X.1.2.2.2.2.1.heap.size) (hLs : Ls < 2 ^ 31) (hi : i + 4 ≤ Ls) (h : Inv M R lv c q L) (kk : ∀ M2 R2 lv2 c2 q2 L2, Inv M2 R2 lv2 c2 q2 L2 → hG z 0 X 226 M2 R2 746 (lwL z b i) []) : hG z 0 X 226 M R 611 (lwL z b i) [] := by
  obtain ⟨a, M1, M2, R2, lv2, c2, q2, L2, k6, k7, hI⟩ := s_append (l := X.1.2.1) (z := z) h (xs (i + 1))
  refine gx_aload_n (i := 1) hC dL_law_611 rfl rfl (Or.inr ⟨_, rfl⟩) ?_
  refine gx_aload_n (i := 0) hC dL_law_612 rfl rfl (Or.inr ⟨_, rfl⟩) ?_
  refine gx_iload_n (i := 3) hC dL_law_613 rfl rfl ?_
  refine gx_iconst (v := nI 1) hC dL_law_614 ic_1n ?_
  refine gx_iadd hC dL_law_615 ?_
  rw [nI_add]
  refine gx_sld hC hX hbl (show i + 1 < Ls by omega) hLs dL_law_616 ?_
  refine gx_callV1 hC dL_law_617 k6 kY_X6_append kV_X6_append ml_L_85 h.gs.at0 rfl (by decide) rfl rfl rfl (Nat.le_of_ble_eq_true rfl) (Nat.le_refl _) (Nat.le_refl _) ?_
  refine gx_aload_n (i := 2) hC dL_law_620 rfl rfl (Or.inr ⟨_, rfl⟩) ?_
  refine gx_aload_n (i := 0) hC dL_law_621 rfl rfl (Or.inr ⟨_, rfl⟩) ?_
  refine gx_iload_n (i := 3) hC dL_law_622 rfl rfl ?_
  refine gx_iconst (v := nI 1) hC dL_law_623 ic_1n ?_
  refine gx_iadd hC dL_law_624 ?_
  rw [nI_add]
  refine gx_sld hC hX hbl (show i + 1 < Ls by omega) hLs dL_law_625 ?_
  refine gx_callV1 hC dL_law_626 k7 kY_X7_append kV_X7_append ml_L_88 h.gm.at215 rfl (by decide) rfl rfl rfl (Nat.le_of_ble_eq_true rfl) (Nat.le_refl _) (Nat.le_refl _) ?_
  refine gx_icmp_eq (tgt := 746) hC dL_law_629 (by decide) (fun _ => ?_) (fun e => absurd rfl e)
  exact kk _ _ _ _ _ _ hI
set_option maxHeartbeats 4000000 in
set_option maxRecDepth 20000 in
theorem w_clearText (hC : hOk z 0 X cL_law RL 4 10 226) (hX : va_X b Ls xs X.1.2.2.2.2.1 X.1.2.2.2.2.1.heap) (hbl : b < X.1.2.2.2.2.1.heap.size) (hLs : Ls < 2 ^ 31) (hi : i + 4 ≤ Ls) (h : Inv M R lv c q L) (kk : ∀ M2 R2 lv2 c2 q2 L2, Inv M2 R2 lv2 c2 q2 L2 → hG z 0 X 226 M2 R2 746 (lwL z b i) []) : hG z 0 X 226 M R 634 (lwL z b i) [] := by
  obtain ⟨a, M1, M2, R2, lv2, c2, q2, L2, k6, k7, hI⟩ := s_clearText (l := X.1.2.1) (z := z) h 
  refine gx_aload_n (i := 1) hC dL_law_634 rfl rfl (Or.inr ⟨_, rfl⟩) ?_
  refine gx_callV1 hC dL_law_635 k6 kY_X6_clearText kV_X6_clearText ml_L_89 h.gs.at0 rfl (by decide) rfl rfl rfl (Nat.le_of_ble_eq_true rfl) (Nat.le_refl _) (Nat.le_refl _) ?_
  refine gx_aload_n (i := 2) hC dL_law_638 rfl rfl (Or.inr ⟨_, rfl⟩) ?_
  refine gx_callV1 hC dL_law_639 k7 kY_X7_clearText kV_X7_clearText ml_L_93 h.gm.at215 rfl (by decide) rfl rfl rfl (Nat.le_of_ble_eq_true rfl) (Nat.le_refl _) (Nat.le_refl _) ?_
  refine gx_icmp_eq (tgt := 746) hC dL_law_642 (by decide) (fun _ => ?_) (fun e => absurd rfl e)
  exact kk _ _ _ _ _ _ hI
set_option maxHeartbeats 4000000 in
set_option maxRecDepth 20000 in
theorem w_faultPosition (hC : hOk z 0 X cL_law RL 4 10 226) (hX : va_X b Ls xs X.1.2.2.2.2.1 X.1.2.2.2.2.1.heap) (hbl : b < X.1.2.2.2.2.1.heap.size) (hLs : Ls < 2 ^ 31) (hi : i + 4 ≤ Ls) (h : Inv M R lv c q L) (kk : ∀ M2 R2 lv2 c2 q2 L2, Inv M2 R2 lv2 c2 q2 L2 → hG z 0 X 226 M2 R2 746 (lwL z b i) []) : hG z 0 X 226 M R 647 (lwL z b i) [] := by
  obtain ⟨a, M1, M2, R2, lv2, c2, q2, L2, k6, k7, hI⟩ := s_faultPosition (l := X.1.2.1) (z := z) h 
  refine gx_aload_n (i := 1) hC dL_law_647 rfl rfl (Or.inr ⟨_, rfl⟩) ?_
  refine gx_callV1 hC dL_law_648 k6 kY_X6_faultPosition kV_X6_faultPosition ml_L_94 h.gs.at0 rfl (by decide) rfl rfl rfl (Nat.le_of_ble_eq_true rfl) (Nat.le_refl _) (Nat.le_refl _) ?_
  refine gx_aload_n (i := 2) hC dL_law_651 rfl rfl (Or.inr ⟨_, rfl⟩) ?_
  refine gx_callV1 hC dL_law_652 k7 kY_X7_faultPosition kV_X7_faultPosition ml_L_97 h.gm.at215 rfl (by decide) rfl rfl rfl (Nat.le_of_ble_eq_true rfl) (Nat.le_refl _) (Nat.le_refl _) ?_
  refine gx_icmp_eq (tgt := 746) hC dL_law_655 (by decide) (fun _ => ?_) (fun e => absurd rfl e)
  exact kk _ _ _ _ _ _ hI
set_option maxHeartbeats 4000000 in
set_option maxRecDepth 20000 in
theorem w_run (hC : hOk z 0 X cL_law RL 4 10 226) (hX : va_X b Ls xs X.1.2.2.2.2.1 X.1.2.2.2.2.1.heap) (hbl : b < X.1.2.2.2.2.1.heap.size) (hLs : Ls < 2 ^ 31) (hi : i + 4 ≤ Ls) (h : Inv M R lv c q L) (kk : ∀ M2 R2 lv2 c2 q2 L2, Inv M2 R2 lv2 c2 q2 L2 → hG z 0 X 226 M2 R2 746 (lwL z b i) []) : hG z 0 X 226 M R 660 (lwL z b i) [] := by
  obtain ⟨a, M1, M2, R2, lv2, c2, q2, L2, k6, k7, hI⟩ := s_run (l := X.1.2.1) (z := z) h 
  refine gx_aload_n (i := 1) hC dL_law_660 rfl rfl (Or.inr ⟨_, rfl⟩) ?_
  refine gx_callV1 hC dL_law_661 k6 kY_X6_run kV_X6_run ml_L_98 h.gs.at0 rfl (by decide) rfl rfl rfl (Nat.le_of_ble_eq_true rfl) (Nat.le_refl _) (Nat.le_refl _) ?_
  refine gx_aload_n (i := 2) hC dL_law_664 rfl rfl (Or.inr ⟨_, rfl⟩) ?_
  refine gx_callV1 hC dL_law_665 k7 kY_X7_run kV_X7_run ml_L_101 h.gm.at215 rfl (by decide) rfl rfl rfl (Nat.le_of_ble_eq_true rfl) (Nat.le_refl _) (Nat.le_refl _) ?_
  refine gx_icmp_eq (tgt := 746) hC dL_law_668 (by decide) (fun _ => ?_) (fun e => absurd rfl e)
  exact kk _ _ _ _ _ _ hI
set_option maxHeartbeats 4000000 in
set_option maxRecDepth 20000 in
theorem w_undo (hC : hOk z 0 X cL_law RL 4 10 226) (hX : va_X b Ls xs X.1.2.2.2.2.1 X.1.2.2.2.2.1.heap) (hbl : b < X.1.2.2.2.2.1.heap.size) (hLs : Ls < 2 ^ 31) (hi : i + 4 ≤ Ls) (h : Inv M R lv c q L) (kk : ∀ M2 R2 lv2 c2 q2 L2, Inv M2 R2 lv2 c2 q2 L2 → hG z 0 X 226 M2 R2 746 (lwL z b i) []) : hG z 0 X 226 M R 673 (lwL z b i) [] := by
  obtain ⟨a, M1, M2, R2, lv2, c2, q2, L2, k6, k7, hI⟩ := s_undo (l := X.1.2.1) (z := z) h 
  refine gx_aload_n (i := 1) hC dL_law_673 rfl rfl (Or.inr ⟨_, rfl⟩) ?_
  refine gx_callV1 hC dL_law_674 k6 kY_X6_undo kV_X6_undo ml_L_102 h.gs.at0 rfl (by decide) rfl rfl rfl (Nat.le_of_ble_eq_true rfl) (Nat.le_refl _) (Nat.le_refl _) ?_
  refine gx_aload_n (i := 2) hC dL_law_677 rfl rfl (Or.inr ⟨_, rfl⟩) ?_
  refine gx_callV1 hC dL_law_678 k7 kY_X7_undo kV_X7_undo ml_L_105 h.gm.at215 rfl (by decide) rfl rfl rfl (Nat.le_of_ble_eq_true rfl) (Nat.le_refl _) (Nat.le_refl _) ?_
  refine gx_icmp_eq (tgt := 746) hC dL_law_681 (by decide) (fun _ => ?_) (fun e => absurd rfl e)
  exact kk _ _ _ _ _ _ hI
set_option maxHeartbeats 4000000 in
set_option maxRecDepth 20000 in
theorem w_keep (hC : hOk z 0 X cL_law RL 4 10 226) (hX : va_X b Ls xs X.1.2.2.2.2.1 X.1.2.2.2.2.1.heap) (hbl : b < X.1.2.2.2.2.1.heap.size) (hLs : Ls < 2 ^ 31) (hi : i + 4 ≤ Ls) (h : Inv M R lv c q L) (kk : ∀ M2 R2 lv2 c2 q2 L2, Inv M2 R2 lv2 c2 q2 L2 → hG z 0 X 226 M2 R2 746 (lwL z b i) []) : hG z 0 X 226 M R 686 (lwL z b i) [] := by
  obtain ⟨a, M1, M2, R2, lv2, c2, q2, L2, k6, k7, hI⟩ := s_keep (l := X.1.2.1) (z := z) h (xs (i + 1))
  refine gx_aload_n (i := 1) hC dL_law_686 rfl rfl (Or.inr ⟨_, rfl⟩) ?_
  refine gx_aload_n (i := 0) hC dL_law_687 rfl rfl (Or.inr ⟨_, rfl⟩) ?_
  refine gx_iload_n (i := 3) hC dL_law_688 rfl rfl ?_
  refine gx_iconst (v := nI 1) hC dL_law_689 ic_1n ?_
  refine gx_iadd hC dL_law_690 ?_
  rw [nI_add]
  refine gx_sld hC hX hbl (show i + 1 < Ls by omega) hLs dL_law_691 ?_
  refine gx_callV1 hC dL_law_692 k6 kY_X6_keep kV_X6_keep ml_L_106 h.gs.at0 rfl (by decide) rfl rfl rfl (Nat.le_of_ble_eq_true rfl) (Nat.le_refl _) (Nat.le_refl _) ?_
  refine gx_aload_n (i := 2) hC dL_law_695 rfl rfl (Or.inr ⟨_, rfl⟩) ?_
  refine gx_aload_n (i := 0) hC dL_law_696 rfl rfl (Or.inr ⟨_, rfl⟩) ?_
  refine gx_iload_n (i := 3) hC dL_law_697 rfl rfl ?_
  refine gx_iconst (v := nI 1) hC dL_law_698 ic_1n ?_
  refine gx_iadd hC dL_law_699 ?_
  rw [nI_add]
  refine gx_sld hC hX hbl (show i + 1 < Ls by omega) hLs dL_law_700 ?_
  refine gx_callV1 hC dL_law_701 k7 kY_X7_keep kV_X7_keep ml_L_109 h.gm.at215 rfl (by decide) rfl rfl rfl (Nat.le_of_ble_eq_true rfl) (Nat.le_refl _) (Nat.le_refl _) ?_
  refine gx_icmp_eq (tgt := 746) hC dL_law_704 (by decide) (fun _ => ?_) (fun e => absurd rfl e)
  exact kk _ _ _ _ _ _ hI
set_option maxHeartbeats 4000000 in
set_option maxRecDepth 20000 in
theorem w_restore (hC : hOk z 0 X cL_law RL 4 10 226) (hX : va_X b Ls xs X.1.2.2.2.2.1 X.1.2.2.2.2.1.heap) (hbl : b < X.1.2.2.2.2.1.heap.size) (hLs : Ls < 2 ^ 31) (hi : i + 4 ≤ Ls) (h : Inv M R lv c q L) (kk : ∀ M2 R2 lv2 c2 q2 L2, Inv M2 R2 lv2 c2 q2 L2 → hG z 0 X 226 M2 R2 746 (lwL z b i) []) : hG z 0 X 226 M R 709 (lwL z b i) [] := by
  obtain ⟨a, M1, M2, R2, lv2, c2, q2, L2, k6, k7, hI⟩ := s_restore (l := X.1.2.1) (z := z) h (xs (i + 1))
  refine gx_aload_n (i := 1) hC dL_law_709 rfl rfl (Or.inr ⟨_, rfl⟩) ?_
  refine gx_aload_n (i := 0) hC dL_law_710 rfl rfl (Or.inr ⟨_, rfl⟩) ?_
  refine gx_iload_n (i := 3) hC dL_law_711 rfl rfl ?_
  refine gx_iconst (v := nI 1) hC dL_law_712 ic_1n ?_
  refine gx_iadd hC dL_law_713 ?_
  rw [nI_add]
  refine gx_sld hC hX hbl (show i + 1 < Ls by omega) hLs dL_law_714 ?_
  refine gx_callV1 hC dL_law_715 k6 kY_X6_restore kV_X6_restore ml_L_110 h.gs.at0 rfl (by decide) rfl rfl rfl (Nat.le_of_ble_eq_true rfl) (Nat.le_refl _) (Nat.le_refl _) ?_
  refine gx_aload_n (i := 2) hC dL_law_718 rfl rfl (Or.inr ⟨_, rfl⟩) ?_
  refine gx_aload_n (i := 0) hC dL_law_719 rfl rfl (Or.inr ⟨_, rfl⟩) ?_
  refine gx_iload_n (i := 3) hC dL_law_720 rfl rfl ?_
  refine gx_iconst (v := nI 1) hC dL_law_721 ic_1n ?_
  refine gx_iadd hC dL_law_722 ?_
  rw [nI_add]
  refine gx_sld hC hX hbl (show i + 1 < Ls by omega) hLs dL_law_723 ?_
  refine gx_callV1 hC dL_law_724 k7 kY_X7_restore kV_X7_restore ml_L_113 h.gm.at215 rfl (by decide) rfl rfl rfl (Nat.le_of_ble_eq_true rfl) (Nat.le_refl _) (Nat.le_refl _) ?_
  refine gx_icmp_eq (tgt := 746) hC dL_law_727 (by decide) (fun _ => ?_) (fun e => absurd rfl e)
  exact kk _ _ _ _ _ _ hI
set_option maxHeartbeats 4000000 in
set_option maxRecDepth 20000 in
theorem w_setRunway (hC : hOk z 0 X cL_law RL 4 10 226) (hX : va_X b Ls xs X.1.2.2.2.2.1 X.1.2.2.2.2.1.heap) (hbl : b < X.1.2.2.2.2.1.heap.size) (hLs : Ls < 2 ^ 31) (hi : i + 4 ≤ Ls) (h : Inv M R lv c q L) (kk : ∀ M2 R2 lv2 c2 q2 L2, Inv M2 R2 lv2 c2 q2 L2 → hG z 0 X 226 M2 R2 746 (lwL z b i) []) : hG z 0 X 226 M R 217 (lwL z b i) [] := by
  by_cases hb : xs (i + 1) = 0
  · obtain ⟨a, M1, M2, R2, lv2, c2, q2, L2, k6, k7, hI⟩ := s_setRunway (l := X.1.2.1) (z := z) h (x := 0) (Or.inl rfl)
    refine gx_aload_n (i := 1) hC dL_law_217 rfl rfl (Or.inr ⟨_, rfl⟩) ?_
    refine gx_aload_n (i := 0) hC dL_law_218 rfl rfl (Or.inr ⟨_, rfl⟩) ?_
    refine gx_iload_n (i := 3) hC dL_law_219 rfl rfl ?_
    refine gx_iconst (v := nI 1) hC dL_law_220 ic_1n ?_
    refine gx_iadd hC dL_law_221 ?_
    rw [nI_add]
    refine gx_sld hC hX hbl (show i + 1 < Ls by omega) hLs dL_law_222 ?_
    refine gx_if_eq (tgt := 230) hC dL_law_223 (by decide) (fun _ => ?_) (fun e => absurd hb e)
    refine gx_iconst (v := 0) hC dL_law_230 ic_0 ?_
    refine gx_callV1 hC dL_law_231 k6 kY_X6_setRunway kV_X6_setRunway ml_L_26 h.gs.at0 rfl (by decide) rfl rfl rfl (Nat.le_of_ble_eq_true rfl) (Nat.le_refl _) (Nat.le_refl _) ?_
    refine gx_aload_n (i := 2) hC dL_law_234 rfl rfl (Or.inr ⟨_, rfl⟩) ?_
    refine gx_aload_n (i := 0) hC dL_law_235 rfl rfl (Or.inr ⟨_, rfl⟩) ?_
    refine gx_iload_n (i := 3) hC dL_law_236 rfl rfl ?_
    refine gx_iconst (v := nI 1) hC dL_law_237 ic_1n ?_
    refine gx_iadd hC dL_law_238 ?_
    rw [nI_add]
    refine gx_sld hC hX hbl (show i + 1 < Ls by omega) hLs dL_law_239 ?_
    refine gx_if_eq (tgt := 247) hC dL_law_240 (by decide) (fun _ => ?_) (fun e => absurd hb e)
    refine gx_iconst (v := 0) hC dL_law_247 ic_0 ?_
    refine gx_callV1 hC dL_law_248 k7 kY_X7_setRunway kV_X7_setRunway ml_L_30 h.gm.at215 rfl (by decide) rfl rfl rfl (Nat.le_of_ble_eq_true rfl) (Nat.le_refl _) (Nat.le_refl _) ?_
    refine gx_icmp_eq (tgt := 746) hC dL_law_251 (by decide) (fun _ => ?_) (fun e => absurd rfl e)
    exact kk _ _ _ _ _ _ hI
  · obtain ⟨a, M1, M2, R2, lv2, c2, q2, L2, k6, k7, hI⟩ := s_setRunway (l := X.1.2.1) (z := z) h (x := 1) (Or.inr rfl)
    refine gx_aload_n (i := 1) hC dL_law_217 rfl rfl (Or.inr ⟨_, rfl⟩) ?_
    refine gx_aload_n (i := 0) hC dL_law_218 rfl rfl (Or.inr ⟨_, rfl⟩) ?_
    refine gx_iload_n (i := 3) hC dL_law_219 rfl rfl ?_
    refine gx_iconst (v := nI 1) hC dL_law_220 ic_1n ?_
    refine gx_iadd hC dL_law_221 ?_
    rw [nI_add]
    refine gx_sld hC hX hbl (show i + 1 < Ls by omega) hLs dL_law_222 ?_
    refine gx_if_eq (tgt := 230) hC dL_law_223 (by decide) (fun e => absurd e hb) (fun _ => ?_)
    refine gx_iconst (v := 1) hC dL_law_226 ic_1 ?_
    refine gx_goto (tgt := 231) hC dL_law_227 (by decide) ?_
    refine gx_callV1 hC dL_law_231 k6 kY_X6_setRunway kV_X6_setRunway ml_L_26 h.gs.at0 rfl (by decide) rfl rfl rfl (Nat.le_of_ble_eq_true rfl) (Nat.le_refl _) (Nat.le_refl _) ?_
    refine gx_aload_n (i := 2) hC dL_law_234 rfl rfl (Or.inr ⟨_, rfl⟩) ?_
    refine gx_aload_n (i := 0) hC dL_law_235 rfl rfl (Or.inr ⟨_, rfl⟩) ?_
    refine gx_iload_n (i := 3) hC dL_law_236 rfl rfl ?_
    refine gx_iconst (v := nI 1) hC dL_law_237 ic_1n ?_
    refine gx_iadd hC dL_law_238 ?_
    rw [nI_add]
    refine gx_sld hC hX hbl (show i + 1 < Ls by omega) hLs dL_law_239 ?_
    refine gx_if_eq (tgt := 247) hC dL_law_240 (by decide) (fun e => absurd e hb) (fun _ => ?_)
    refine gx_iconst (v := 1) hC dL_law_243 ic_1 ?_
    refine gx_goto (tgt := 248) hC dL_law_244 (by decide) ?_
    refine gx_callV1 hC dL_law_248 k7 kY_X7_setRunway kV_X7_setRunway ml_L_30 h.gm.at215 rfl (by decide) rfl rfl rfl (Nat.le_of_ble_eq_true rfl) (Nat.le_refl _) (Nat.le_refl _) ?_
    refine gx_icmp_eq (tgt := 746) hC dL_law_251 (by decide) (fun _ => ?_) (fun e => absurd rfl e)
    exact kk _ _ _ _ _ _ hI
set_option maxHeartbeats 4000000 in
set_option maxRecDepth 20000 in
theorem w_setLadder (hC : hOk z 0 X cL_law RL 4 10 226) (hX : va_X b Ls xs X.1.2.2.2.2.1 X.1.2.2.2.2.1.heap) (hbl : b < X.1.2.2.2.2.1.heap.size) (hLs : Ls < 2 ^ 31) (hi : i + 4 ≤ Ls) (h : Inv M R lv c q L) (kk : ∀ M2 R2 lv2 c2 q2 L2, Inv M2 R2 lv2 c2 q2 L2 → hG z 0 X 226 M2 R2 746 (lwL z b i) []) : hG z 0 X 226 M R 256 (lwL z b i) [] := by
  by_cases hb : xs (i + 1) = 0
  · obtain ⟨a, M1, M2, R2, lv2, c2, q2, L2, k6, k7, hI⟩ := s_setLadder (l := X.1.2.1) (z := z) h (x := 0) (Or.inl rfl)
    refine gx_aload_n (i := 1) hC dL_law_256 rfl rfl (Or.inr ⟨_, rfl⟩) ?_
    refine gx_aload_n (i := 0) hC dL_law_257 rfl rfl (Or.inr ⟨_, rfl⟩) ?_
    refine gx_iload_n (i := 3) hC dL_law_258 rfl rfl ?_
    refine gx_iconst (v := nI 1) hC dL_law_259 ic_1n ?_
    refine gx_iadd hC dL_law_260 ?_
    rw [nI_add]
    refine gx_sld hC hX hbl (show i + 1 < Ls by omega) hLs dL_law_261 ?_
    refine gx_if_eq (tgt := 269) hC dL_law_262 (by decide) (fun _ => ?_) (fun e => absurd hb e)
    refine gx_iconst (v := 0) hC dL_law_269 ic_0 ?_
    refine gx_callV1 hC dL_law_270 k6 kY_X6_setLadder kV_X6_setLadder ml_L_31 h.gs.at0 rfl (by decide) rfl rfl rfl (Nat.le_of_ble_eq_true rfl) (Nat.le_refl _) (Nat.le_refl _) ?_
    refine gx_aload_n (i := 2) hC dL_law_273 rfl rfl (Or.inr ⟨_, rfl⟩) ?_
    refine gx_aload_n (i := 0) hC dL_law_274 rfl rfl (Or.inr ⟨_, rfl⟩) ?_
    refine gx_iload_n (i := 3) hC dL_law_275 rfl rfl ?_
    refine gx_iconst (v := nI 1) hC dL_law_276 ic_1n ?_
    refine gx_iadd hC dL_law_277 ?_
    rw [nI_add]
    refine gx_sld hC hX hbl (show i + 1 < Ls by omega) hLs dL_law_278 ?_
    refine gx_if_eq (tgt := 286) hC dL_law_279 (by decide) (fun _ => ?_) (fun e => absurd hb e)
    refine gx_iconst (v := 0) hC dL_law_286 ic_0 ?_
    refine gx_callV1 hC dL_law_287 k7 kY_X7_setLadder kV_X7_setLadder ml_L_34 h.gm.at215 rfl (by decide) rfl rfl rfl (Nat.le_of_ble_eq_true rfl) (Nat.le_refl _) (Nat.le_refl _) ?_
    refine gx_icmp_eq (tgt := 746) hC dL_law_290 (by decide) (fun _ => ?_) (fun e => absurd rfl e)
    exact kk _ _ _ _ _ _ hI
  · obtain ⟨a, M1, M2, R2, lv2, c2, q2, L2, k6, k7, hI⟩ := s_setLadder (l := X.1.2.1) (z := z) h (x := 1) (Or.inr rfl)
    refine gx_aload_n (i := 1) hC dL_law_256 rfl rfl (Or.inr ⟨_, rfl⟩) ?_
    refine gx_aload_n (i := 0) hC dL_law_257 rfl rfl (Or.inr ⟨_, rfl⟩) ?_
    refine gx_iload_n (i := 3) hC dL_law_258 rfl rfl ?_
    refine gx_iconst (v := nI 1) hC dL_law_259 ic_1n ?_
    refine gx_iadd hC dL_law_260 ?_
    rw [nI_add]
    refine gx_sld hC hX hbl (show i + 1 < Ls by omega) hLs dL_law_261 ?_
    refine gx_if_eq (tgt := 269) hC dL_law_262 (by decide) (fun e => absurd e hb) (fun _ => ?_)
    refine gx_iconst (v := 1) hC dL_law_265 ic_1 ?_
    refine gx_goto (tgt := 270) hC dL_law_266 (by decide) ?_
    refine gx_callV1 hC dL_law_270 k6 kY_X6_setLadder kV_X6_setLadder ml_L_31 h.gs.at0 rfl (by decide) rfl rfl rfl (Nat.le_of_ble_eq_true rfl) (Nat.le_refl _) (Nat.le_refl _) ?_
    refine gx_aload_n (i := 2) hC dL_law_273 rfl rfl (Or.inr ⟨_, rfl⟩) ?_
    refine gx_aload_n (i := 0) hC dL_law_274 rfl rfl (Or.inr ⟨_, rfl⟩) ?_
    refine gx_iload_n (i := 3) hC dL_law_275 rfl rfl ?_
    refine gx_iconst (v := nI 1) hC dL_law_276 ic_1n ?_
    refine gx_iadd hC dL_law_277 ?_
    rw [nI_add]
    refine gx_sld hC hX hbl (show i + 1 < Ls by omega) hLs dL_law_278 ?_
    refine gx_if_eq (tgt := 286) hC dL_law_279 (by decide) (fun e => absurd e hb) (fun _ => ?_)
    refine gx_iconst (v := 1) hC dL_law_282 ic_1 ?_
    refine gx_goto (tgt := 287) hC dL_law_283 (by decide) ?_
    refine gx_callV1 hC dL_law_287 k7 kY_X7_setLadder kV_X7_setLadder ml_L_34 h.gm.at215 rfl (by decide) rfl rfl rfl (Nat.le_of_ble_eq_true rfl) (Nat.le_refl _) (Nat.le_refl _) ?_
    refine gx_icmp_eq (tgt := 746) hC dL_law_290 (by decide) (fun _ => ?_) (fun e => absurd rfl e)
    exact kk _ _ _ _ _ _ hI
set_option maxHeartbeats 4000000 in
set_option maxRecDepth 20000 in
theorem w_checksum (hC : hOk z 0 X cL_law RL 4 10 226) (hX : va_X b Ls xs X.1.2.2.2.2.1 X.1.2.2.2.2.1.heap) (hbl : b < X.1.2.2.2.2.1.heap.size) (hLs : Ls < 2 ^ 31) (hi : i + 4 ≤ Ls) (h : Inv M R lv c q L) (kk : ∀ M2 R2 lv2 c2 q2 L2, Inv M2 R2 lv2 c2 q2 L2 → hG z 0 X 226 M2 R2 746 (lwL z b i) []) : hG z 0 X 226 M R 732 (lwL z b i) [] := by
  obtain ⟨a, M1, M2, k6, k7, hI⟩ := s_checksum (l := X.1.2.1) (z := z) h
  refine gx_aload_n (i := 1) hC dL_law_732 rfl rfl (Or.inr ⟨_, rfl⟩) ?_
  refine gx_callV1 hC dL_law_733 k6 kY_X6_checksum kV_X6_checksum ml_L_114 h.gs.at0 rfl (by decide) rfl rfl rfl (Nat.le_of_ble_eq_true rfl) (Nat.le_refl _) (Nat.le_refl _) ?_
  refine gx_aload_n (i := 2) hC dL_law_736 rfl rfl (Or.inr ⟨_, rfl⟩) ?_
  refine gx_callV1 hC dL_law_737 k7 kY_X7_checksum kV_X7_checksum ml_L_118 h.gm.at215 rfl (by decide) rfl rfl rfl (Nat.le_of_ble_eq_true rfl) (Nat.le_refl _) (Nat.le_refl _) ?_
  refine gx_lcmp hC dL_law_740 ?_
  refine gx_if_eq (tgt := 746) hC dL_law_741 (by decide) (fun _ => ?_) (fun e => absurd rfl e)
  exact kk _ _ _ _ _ _ hI
end LAWCASES
