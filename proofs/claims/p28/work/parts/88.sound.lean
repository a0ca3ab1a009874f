/-! the law: what is sound -/
set_option maxHeartbeats 4000000 in
set_option maxRecDepth 20000 in
theorem u_sound (l : Launch) (z : hZt) {M : hMem} {R : hRef} {v : gRow} {lv c q T : Nat} {H : Nat → gRow} {K : Nat → Option gRow} (h : PI M R v lv c q H K) (hq : QQ v c T) (hT : T < 2 ^ 30) : hCt l z m_L_sound [.ref (z.1 + 0)] 215 M R 215 (some (.int 1)) M R := by
  refine hs_start [some (.ref (z.1 + 0)), none, none, none, none, none, none, none, none] (by decide +kernel) rfl (by intro u hu; simp at hu; subst hu <;> first | rfl | exact isR_cat kv_isR | exact isR_cat aref_isR) (Nat.le_of_ble_eq_true rfl) (Nat.le_refl _) (fun X hlX hN hC hQ => ?_)
  dsimp only at hC hQ
  obtain ⟨t, ht, h0t, hgone⟩ := hq.2
  have c20 := h.sw.c20
  have l16 := h.sw.l16
  obtain ⟨w4, hw4, ew⟩ := h.rl.wv.wt
  refine gx_iconst (v := 0) hC dL_sound_0 ic_0 ?_
  refine gx_istore_n (i := 1) (L' := [_, _, _, _, _, _, _, _, _]) hC dL_sound_1 rfl (Nat.le_of_ble_eq_true rfl) rfl (fun u h9 => by first | exact Or.inl rfl | (cases h9; done) | (right; cases h9; first | rfl | exact isR_cat aref_isR | exact isR_cat kv_isR)) ?_
  refine gx_iconst (v := 0) hC dL_sound_2 ic_0 ?_
  refine gx_istore_n (i := 2) (L' := [_, _, _, _, _, _, _, _, _]) hC dL_sound_3 rfl (Nat.le_of_ble_eq_true rfl) rfl (fun u h9 => by first | exact Or.inl rfl | (cases h9; done) | (right; cases h9; first | rfl | exact isR_cat aref_isR | exact isR_cat kv_isR)) ?_
  refine gx_iconst (v := 0) hC dL_sound_4 ic_0 ?_
  refine gx_istore_n (i := 3) (L' := [_, _, _, _, _, _, _, _, _]) hC dL_sound_5 rfl (Nat.le_of_ble_eq_true rfl) rfl (fun u h9 => by first | exact Or.inl rfl | (cases h9; done) | (right; cases h9; first | rfl | exact isR_cat aref_isR | exact isR_cat kv_isR)) ?_
  refine gx_aload_n (i := 0) hC dL_sound_6 rfl rfl (by first | exact Or.inr ⟨_, rfl⟩ | exact Or.inl rfl) ?_
  refine gx_iconst (v := nI 2) hC dL_sound_7 ic_2n ?_
  refine gx_callV1 hC dL_sound_8 (tt2 h) kY_X6_tell kV_X6_tell ml_L_9 (by exact h.gs.at0) rfl (by decide) rfl rfl rfl (by first | exact Nat.le_of_ble_eq_true rfl | (simp [Value.category, isR_cat kv_isR, isR_cat aref_isR]; done)) (Nat.le_refl _) (Nat.le_refl _) ?_
  refine gx_istore (i := 4) (L' := [_, _, _, _, _, _, _, _, _]) hC dL_sound_11 (Nat.le_of_ble_eq_true rfl) rfl (fun u h9 => by first | exact Or.inl rfl | (cases h9; done) | (right; cases h9; first | rfl | exact isR_cat aref_isR | exact isR_cat kv_isR)) ?_
  refine gx_iconst (v := nI 1) hC dL_sound_13 ic_1n ?_
  refine gx_istore (i := 5) (L' := [_, _, _, _, _, _, _, _, _]) hC dL_sound_14 (Nat.le_of_ble_eq_true rfl) rfl (fun u h9 => by first | exact Or.inl rfl | (cases h9; done) | (right; cases h9; first | rfl | exact isR_cat aref_isR | exact isR_cat kv_isR)) ?_
  refine gx_iconst (v := nI 0) hC dL_sound_16 ic_0n ?_
  refine gx_istore (i := 6) (L' := [_, _, _, _, _, _, _, _, _]) hC dL_sound_17 (Nat.le_of_ble_eq_true rfl) rfl (fun u h9 => by first | exact Or.inl rfl | (cases h9; done) | (right; cases h9; first | rfl | exact isR_cat aref_isR | exact isR_cat kv_isR)) ?_
  have loop_19 : ∀ (k : Nat) (j : Nat) (w7 w8 : Option Value), c - j < k → j ≤ c → hG z 215 X 215 M R 19 [some (.ref (z.1 + 0)), some (.int (sm (sF v) j)), some (.int (mCnt v 0 j)), some (.int (mCnt v 1 j)), some (.int (v 2)), some (.int (nI 1)), some (.int (nI j)), w7, w8] [] := by
    intro k
    induction k with
    | zero => intros; omega
    | succ k ih =>
      intro j w7 w8 hk1 hj1
      refine gx_iload hC dL_sound_19 rfl ?_
      refine gx_aload_n (i := 0) hC dL_sound_21 rfl rfl (by first | exact Or.inr ⟨_, rfl⟩ | exact Or.inl rfl) ?_
      refine gx_iconst (v := nI 3) hC dL_sound_22 ic_3n ?_
      refine gx_callV1 hC dL_sound_23 (tt3 h) kY_X6_tell kV_X6_tell ml_L_9 (by exact h.gs.at0) rfl (by decide) rfl rfl rfl (by first | exact Nat.le_of_ble_eq_true rfl | (simp [Value.category, isR_cat kv_isR, isR_cat aref_isR]; done)) (Nat.le_refl _) (Nat.le_refl _) ?_
      refine gx_icmp_ge (tgt := 287) hC dL_sound_26 (by decide) (fun c_26 => ?_) (fun c_26 => ?_)
      · have d_26 := cle (by omega) (by omega) c_26
        rw [show j = c by omega]
        refine gx_iconst (v := 0) hC dL_sound_287 ic_0 ?_
        refine gx_istore (i := 6) (L' := [_, _, _, _, _, _, _, _, _]) hC dL_sound_288 (Nat.le_of_ble_eq_true rfl) rfl (fun u h9 => by first | exact Or.inl rfl | (cases h9; done) | (right; cases h9; first | rfl | exact isR_cat aref_isR | exact isR_cat kv_isR)) ?_
        refine gx_iconst (v := nI 0) hC dL_sound_290 ic_0n ?_
        refine gx_istore (i := 7) (L' := [_, _, _, _, _, _, _, _, _]) hC dL_sound_291 (Nat.le_of_ble_eq_true rfl) rfl (fun u h9 => by first | exact Or.inl rfl | (cases h9; done) | (right; cases h9; first | rfl | exact isR_cat aref_isR | exact isR_cat kv_isR)) ?_
        have loop_293 : ∀ (k : Nat) (k2 : Nat) (w8 : Option Value), lv - k2 < k → k2 ≤ lv → hG z 215 X 215 M R 293 [some (.ref (z.1 + 0)), some (.int (sm (sF v) c)), some (.int (mCnt v 0 c)), some (.int (mCnt v 1 c)), some (.int (v 2)), some (.int (nI 1)), some (.int (sm (fun i => oG (fun _ => 1) (mOn v (nI i) c)) k2)), some (.int (nI k2)), w8] [] := by
          intro k
          induction k with
          | zero => intros; omega
          | succ k ih =>
            intro k2 w8 hk1 hk3
            refine gx_iload hC dL_sound_293 rfl ?_
            refine gx_aload_n (i := 0) hC dL_sound_295 rfl rfl (by first | exact Or.inr ⟨_, rfl⟩ | exact Or.inl rfl) ?_
            refine gx_iconst (v := nI 1) hC dL_sound_296 ic_1n ?_
            refine gx_callV1 hC dL_sound_297 (tt1 h) kY_X6_tell kV_X6_tell ml_L_9 (by exact h.gs.at0) rfl (by decide) rfl rfl rfl (by first | exact Nat.le_of_ble_eq_true rfl | (simp [Value.category, isR_cat kv_isR, isR_cat aref_isR]; done)) (Nat.le_refl _) (Nat.le_refl _) ?_
            refine gx_icmp_ge (tgt := 354) hC dL_sound_300 (by decide) (fun c_300 => ?_) (fun c_300 => ?_)
            · have d_300 := cle (by omega) (by omega) c_300
              rw [show k2 = lv by omega]
              refine gx_iload hC dL_sound_354 rfl ?_
              refine gx_if_eq (tgt := 424) hC dL_sound_356 (by decide) (fun c_356 => ?_) (fun c_356 => ?_)
              · first | exact absurd (by decide) c_356 | exact absurd c_356 (by decide)
              · refine gx_iload hC dL_sound_359 rfl ?_
                refine gx_iload_n (i := 2) hC dL_sound_361 rfl rfl ?_
                refine gx_icmp_ne (tgt := 424) hC dL_sound_362 (by decide) (fun c_362 => ?_) (fun c_362 => ?_)
                · first | exact absurd (by exact on_held h.rl.wv) c_362 | exact absurd c_362 (by exact on_held h.rl.wv)
                · refine gx_aload_n (i := 0) hC dL_sound_365 rfl rfl (by first | exact Or.inr ⟨_, rfl⟩ | exact Or.inl rfl) ?_
                  refine gx_iconst (v := nI 4) hC dL_sound_366 ic_4n ?_
                  refine gx_callV1 hC dL_sound_367 (tt4 h) kY_X6_tell kV_X6_tell ml_L_9 (by exact h.gs.at0) rfl (by decide) rfl rfl rfl (by first | exact Nat.le_of_ble_eq_true rfl | (simp [Value.category, isR_cat kv_isR, isR_cat aref_isR]; done)) (Nat.le_refl _) (Nat.le_refl _) ?_
                  refine gx_iload_n (i := 2) hC dL_sound_370 rfl rfl ?_
                  refine gx_icmp_ne (tgt := 424) hC dL_sound_371 (by decide) (fun c_371 => ?_) (fun c_371 => ?_)
                  · first | exact absurd (by rfl) c_371 | exact absurd c_371 (by rfl)
                  · refine gx_aload_n (i := 0) hC dL_sound_374 rfl rfl (by first | exact Or.inr ⟨_, rfl⟩ | exact Or.inl rfl) ?_
                    refine gx_iconst (v := nI 5) hC dL_sound_375 ic_5n ?_
                    refine gx_callV1 hC dL_sound_376 (tt5 h) kY_X6_tell kV_X6_tell ml_L_9 (by exact h.gs.at0) rfl (by decide) rfl rfl rfl (by first | exact Nat.le_of_ble_eq_true rfl | (simp [Value.category, isR_cat kv_isR, isR_cat aref_isR]; done)) (Nat.le_refl _) (Nat.le_refl _) ?_
                    refine gx_iload_n (i := 3) hC dL_sound_379 rfl rfl ?_
                    refine gx_icmp_ne (tgt := 424) hC dL_sound_380 (by decide) (fun c_380 => ?_) (fun c_380 => ?_)
                    · first | exact absurd (by rfl) c_380 | exact absurd c_380 (by rfl)
                    · refine gx_aload_n (i := 0) hC dL_sound_383 rfl rfl (by first | exact Or.inr ⟨_, rfl⟩ | exact Or.inl rfl) ?_
                      refine gx_bipush (v := nI 6) hC dL_sound_384 bp_6n ?_
                      refine gx_callV1 hC dL_sound_386 (tt6 h) kY_X6_tell kV_X6_tell ml_L_9 (by exact h.gs.at0) rfl (by decide) rfl rfl rfl (by first | exact Nat.le_of_ble_eq_true rfl | (simp [Value.category, isR_cat kv_isR, isR_cat aref_isR]; done)) (Nat.le_refl _) (Nat.le_refl _) ?_
                      refine gx_aload_n (i := 0) hC dL_sound_389 rfl rfl (by first | exact Or.inr ⟨_, rfl⟩ | exact Or.inl rfl) ?_
                      refine gx_iconst (v := nI 3) hC dL_sound_390 ic_3n ?_
                      refine gx_callV1 hC dL_sound_391 (tt3 h) kY_X6_tell kV_X6_tell ml_L_9 (by exact h.gs.at0) rfl (by decide) rfl rfl rfl (by first | exact Nat.le_of_ble_eq_true rfl | (simp [Value.category, isR_cat kv_isR, isR_cat aref_isR]; done)) (Nat.le_refl _) (Nat.le_refl _) ?_
                      refine gx_iload_n (i := 2) hC dL_sound_394 rfl rfl ?_
                      refine gx_isub hC dL_sound_395 ?_
                      refine gx_iload_n (i := 3) hC dL_sound_396 rfl rfl ?_
                      refine gx_isub hC dL_sound_397 ?_
                      refine gx_icmp_ne (tgt := 424) hC dL_sound_398 (by decide) (fun c_398 => ?_) (fun c_398 => ?_)
                      · first | exact absurd (by exact cnt_2 h.rl.wv) c_398 | exact absurd c_398 (by exact cnt_2 h.rl.wv)
                      · refine gx_aload_n (i := 0) hC dL_sound_401 rfl rfl (by first | exact Or.inr ⟨_, rfl⟩ | exact Or.inl rfl) ?_
                        refine gx_bipush (v := nI 8) hC dL_sound_402 bp_8n ?_
                        refine gx_callV1 hC dL_sound_404 (tt8 h) kY_X6_tell kV_X6_tell ml_L_9 (by exact h.gs.at0) rfl (by decide) rfl rfl rfl (by first | exact Nat.le_of_ble_eq_true rfl | (simp [Value.category, isR_cat kv_isR, isR_cat aref_isR]; done)) (Nat.le_refl _) (Nat.le_refl _) ?_
                        refine gx_if_lt (tgt := 424) hC dL_sound_407 (by decide) (fun c_407 => ?_) (fun c_407 => ?_)
                        · first | exact absurd (by rw [ew]; exact nI_pos (by omega)) c_407 | exact absurd c_407 (by rw [ew]; exact nI_pos (by omega))
                        · refine gx_aload_n (i := 0) hC dL_sound_410 rfl rfl (by first | exact Or.inr ⟨_, rfl⟩ | exact Or.inl rfl) ?_
                          refine gx_bipush (v := nI 8) hC dL_sound_411 bp_8n ?_
                          refine gx_callV1 hC dL_sound_413 (tt8 h) kY_X6_tell kV_X6_tell ml_L_9 (by exact h.gs.at0) rfl (by decide) rfl rfl rfl (by first | exact Nat.le_of_ble_eq_true rfl | (simp [Value.category, isR_cat kv_isR, isR_cat aref_isR]; done)) (Nat.le_refl _) (Nat.le_refl _) ?_
                          refine gx_iconst (v := nI 4) hC dL_sound_416 ic_4n ?_
                          refine gx_icmp_gt (tgt := 424) hC dL_sound_417 (by decide) (fun c_417 => ?_) (fun c_417 => ?_)
                          · first | exact absurd (by rw [ew]; exact nI_nlt hw4 (by decide)) c_417 | exact absurd c_417 (by rw [ew]; exact nI_nlt hw4 (by decide))
                          · refine gx_iconst (v := nI 1) hC dL_sound_420 ic_1n ?_
                            refine gx_goto (tgt := 425) hC dL_sound_421 (by decide) ?_
                            refine gx_istore (i := 5) (L' := [_, _, _, _, _, _, _, _, _]) hC dL_sound_425 (Nat.le_of_ble_eq_true rfl) rfl (fun u h9 => by first | exact Or.inl rfl | (cases h9; done) | (right; cases h9; first | rfl | exact isR_cat aref_isR | exact isR_cat kv_isR)) ?_
                            refine gx_iload hC dL_sound_427 rfl ?_
                            refine gx_if_eq (tgt := 504) hC dL_sound_429 (by decide) (fun c_429 => ?_) (fun c_429 => ?_)
                            · first | exact absurd (by decide) c_429 | exact absurd c_429 (by decide)
                            · refine gx_aload_n (i := 0) hC dL_sound_432 rfl rfl (by first | exact Or.inr ⟨_, rfl⟩ | exact Or.inl rfl) ?_
                              refine gx_bipush (v := nI 12) hC dL_sound_433 bp_12n ?_
                              refine gx_callV1 hC dL_sound_435 (tt12 h) kY_X6_tell kV_X6_tell ml_L_9 (by exact h.gs.at0) rfl (by decide) rfl rfl rfl (by first | exact Nat.le_of_ble_eq_true rfl | (simp [Value.category, isR_cat kv_isR, isR_cat aref_isR]; done)) (Nat.le_refl _) (Nat.le_refl _) ?_
                              refine gx_aload_n (i := 0) hC dL_sound_438 rfl rfl (by first | exact Or.inr ⟨_, rfl⟩ | exact Or.inl rfl) ?_
                              refine gx_bipush (v := nI 13) hC dL_sound_439 bp_13n ?_
                              refine gx_callV1 hC dL_sound_441 (tt13 h) kY_X6_tell kV_X6_tell ml_L_9 (by exact h.gs.at0) rfl (by decide) rfl rfl rfl (by first | exact Nat.le_of_ble_eq_true rfl | (simp [Value.category, isR_cat kv_isR, isR_cat aref_isR]; done)) (Nat.le_refl _) (Nat.le_refl _) ?_
                              refine gx_aload_n (i := 0) hC dL_sound_444 rfl rfl (by first | exact Or.inr ⟨_, rfl⟩ | exact Or.inl rfl) ?_
                              refine gx_bipush (v := nI 14) hC dL_sound_445 bp_14n ?_
                              refine gx_callV1 hC dL_sound_447 (tt14 h) kY_X6_tell kV_X6_tell ml_L_9 (by exact h.gs.at0) rfl (by decide) rfl rfl rfl (by first | exact Nat.le_of_ble_eq_true rfl | (simp [Value.category, isR_cat kv_isR, isR_cat aref_isR]; done)) (Nat.le_refl _) (Nat.le_refl _) ?_
                              refine gx_iadd hC dL_sound_450 ?_
                              refine gx_aload_n (i := 0) hC dL_sound_451 rfl rfl (by first | exact Or.inr ⟨_, rfl⟩ | exact Or.inl rfl) ?_
                              refine gx_bipush (v := nI 15) hC dL_sound_452 bp_15n ?_
                              refine gx_callV1 hC dL_sound_454 (tt15 h) kY_X6_tell kV_X6_tell ml_L_9 (by exact h.gs.at0) rfl (by decide) rfl rfl rfl (by first | exact Nat.le_of_ble_eq_true rfl | (simp [Value.category, isR_cat kv_isR, isR_cat aref_isR]; done)) (Nat.le_refl _) (Nat.le_refl _) ?_
                              refine gx_iadd hC dL_sound_457 ?_
                              refine gx_iload_n (i := 1) hC dL_sound_458 rfl rfl ?_
                              refine gx_iadd hC dL_sound_459 ?_
                              refine gx_icmp_ne (tgt := 504) hC dL_sound_460 (by decide) (fun c_460 => ?_) (fun c_460 => ?_)
                              · first | exact absurd (by exact hq.1) c_460 | exact absurd c_460 (by exact hq.1)
                              · refine gx_aload_n (i := 0) hC dL_sound_463 rfl rfl (by first | exact Or.inr ⟨_, rfl⟩ | exact Or.inl rfl) ?_
                                refine gx_aload_n (i := 0) hC dL_sound_464 rfl rfl (by first | exact Or.inr ⟨_, rfl⟩ | exact Or.inl rfl) ?_
                                refine gx_iconst (v := nI 1) hC dL_sound_465 ic_1n ?_
                                refine gx_callV1 hC dL_sound_466 (tt1 h) kY_X6_tell kV_X6_tell ml_L_9 (by exact h.gs.at0) rfl (by decide) rfl rfl rfl (by first | exact Nat.le_of_ble_eq_true rfl | (simp [Value.category, isR_cat kv_isR, isR_cat aref_isR]; done)) (Nat.le_refl _) (Nat.le_refl _) ?_
                                refine gx_callV1 hC dL_sound_469 (tlex h) kY_X6_level kV_X6_level ml_L_19 (by exact h.gs.at0) rfl (by decide) rfl rfl rfl (by first | exact Nat.le_of_ble_eq_true rfl | (simp [Value.category, isR_cat kv_isR, isR_cat aref_isR]; done)) (Nat.le_refl _) (Nat.le_refl _) ?_
                                refine gx_iconst (v := -1) hC dL_sound_472 ic_m1 ?_
                                refine gx_icmp_ne (tgt := 504) hC dL_sound_473 (by decide) (fun c_473 => ?_) (fun c_473 => ?_)
                                · first | exact absurd (by rfl) c_473 | exact absurd c_473 (by rfl)
                                · refine gx_aload_n (i := 0) hC dL_sound_476 rfl rfl (by first | exact Or.inr ⟨_, rfl⟩ | exact Or.inl rfl) ?_
                                  refine gx_aload_n (i := 0) hC dL_sound_477 rfl rfl (by first | exact Or.inr ⟨_, rfl⟩ | exact Or.inl rfl) ?_
                                  refine gx_iconst (v := nI 3) hC dL_sound_478 ic_3n ?_
                                  refine gx_callV1 hC dL_sound_479 (tt3 h) kY_X6_tell kV_X6_tell ml_L_9 (by exact h.gs.at0) rfl (by decide) rfl rfl rfl (by first | exact Nat.le_of_ble_eq_true rfl | (simp [Value.category, isR_cat kv_isR, isR_cat aref_isR]; done)) (Nat.le_refl _) (Nat.le_refl _) ?_
                                  refine gx_iconst (v := nI 0) hC dL_sound_482 ic_0n ?_
                                  refine gx_callV1 hC dL_sound_483 (t_airx h _) kY_X6_aircraft kV_X6_aircraft ml_L_15 (by exact h.gs.at0) rfl (by decide) rfl rfl rfl (by first | exact Nat.le_of_ble_eq_true rfl | (simp [Value.category, isR_cat kv_isR, isR_cat aref_isR]; done)) (Nat.le_refl _) (Nat.le_refl _) ?_
                                  refine gx_iconst (v := -1) hC dL_sound_486 ic_m1 ?_
                                  refine gx_icmp_ne (tgt := 504) hC dL_sound_487 (by decide) (fun c_487 => ?_) (fun c_487 => ?_)
                                  · first | exact absurd (by rfl) c_487 | exact absurd c_487 (by rfl)
                                  · refine gx_aload_n (i := 0) hC dL_sound_490 rfl rfl (by first | exact Or.inr ⟨_, rfl⟩ | exact Or.inl rfl) ?_
                                    refine gx_bipush (v := nI 17) hC dL_sound_491 bp_17n ?_
                                    refine gx_callV1 hC dL_sound_493 (tt17 h) kY_X6_tell kV_X6_tell ml_L_9 (by exact h.gs.at0) rfl (by decide) rfl rfl rfl (by first | exact Nat.le_of_ble_eq_true rfl | (simp [Value.category, isR_cat kv_isR, isR_cat aref_isR]; done)) (Nat.le_refl _) (Nat.le_refl _) ?_
                                    refine gx_iconst (v := nI 5) hC dL_sound_496 ic_5n ?_
                                    refine gx_icmp_gt (tgt := 504) hC dL_sound_497 (by decide) (fun c_497 => ?_) (fun c_497 => ?_)
                                    · first | exact absurd (by exact nI_nlt h.q5 (by decide)) c_497 | exact absurd c_497 (by exact nI_nlt h.q5 (by decide))
                                    · refine gx_iconst (v := nI 1) hC dL_sound_500 ic_1n ?_
                                      refine gx_goto (tgt := 505) hC dL_sound_501 (by decide) ?_
                                      exact gx_zret hC hQ dL_sound_505 (by first | exact Or.inl rfl | exact Or.inr rfl | exact b2_bit _ | assumption) (rfl) (rfl) rfl
            · have hk2 : k2 < lv := by have := mt (nI_leI (show lv < 2 ^ 31 by omega) (show k2 < 2 ^ 31 by omega)).mpr c_300; omega
              cases e : mOn v (nI k2) c with
              | none =>
                refine gx_iload hC dL_sound_303 rfl ?_
                refine gx_if_eq (tgt := 354) hC dL_sound_305 (by decide) (fun c_305 => ?_) (fun c_305 => ?_)
                · first | exact absurd (by decide) c_305 | exact absurd c_305 (by decide)
                · refine gx_iload hC dL_sound_308 rfl ?_
                  refine gx_aload_n (i := 0) hC dL_sound_310 rfl rfl (by first | exact Or.inr ⟨_, rfl⟩ | exact Or.inl rfl) ?_
                  refine gx_iload hC dL_sound_311 rfl ?_
                  refine gx_callV1 hC dL_sound_313 (tle h hk2) kY_X6_level kV_X6_level ml_L_19 (by exact h.gs.at0) rfl (by decide) rfl rfl rfl (by first | exact Nat.le_of_ble_eq_true rfl | (simp [Value.category, isR_cat kv_isR, isR_cat aref_isR]; done)) (Nat.le_refl _) (Nat.le_refl _) ?_
                  refine gx_if_lt (tgt := 323) hC dL_sound_316 (by decide) (fun c_316 => ?_) (fun c_316 => ?_)
                  · refine gx_iconst (v := 0) hC dL_sound_323 ic_0 ?_
                    refine gx_iadd hC dL_sound_324 ?_
                    refine gx_istore (i := 6) (L' := [_, _, _, _, _, _, _, _, _]) hC dL_sound_325 (Nat.le_of_ble_eq_true rfl) rfl (fun u h9 => by first | exact Or.inl rfl | (cases h9; done) | (right; cases h9; first | rfl | exact isR_cat aref_isR | exact isR_cat kv_isR)) ?_
                    refine gx_aload_n (i := 0) hC dL_sound_327 rfl rfl (by first | exact Or.inr ⟨_, rfl⟩ | exact Or.inl rfl) ?_
                    refine gx_iload hC dL_sound_328 rfl ?_
                    refine gx_callV1 hC dL_sound_330 (tle h hk2) kY_X6_level kV_X6_level ml_L_19 (by exact h.gs.at0) rfl (by decide) rfl rfl rfl (by first | exact Nat.le_of_ble_eq_true rfl | (simp [Value.category, isR_cat kv_isR, isR_cat aref_isR]; done)) (Nat.le_refl _) (Nat.le_refl _) ?_
                    refine gx_aload_n (i := 0) hC dL_sound_333 rfl rfl (by first | exact Or.inr ⟨_, rfl⟩ | exact Or.inl rfl) ?_
                    refine gx_iconst (v := nI 3) hC dL_sound_334 ic_3n ?_
                    refine gx_callV1 hC dL_sound_335 (tt3 h) kY_X6_tell kV_X6_tell ml_L_9 (by exact h.gs.at0) rfl (by decide) rfl rfl rfl (by first | exact Nat.le_of_ble_eq_true rfl | (simp [Value.category, isR_cat kv_isR, isR_cat aref_isR]; done)) (Nat.le_refl _) (Nat.le_refl _) ?_
                    refine gx_icmp_ge (tgt := 345) hC dL_sound_338 (by decide) (fun c_338 => ?_) (fun c_338 => ?_)
                    · first | exact absurd (by rw [e]; exact fun x => absurd (Int32.le_iff_toInt_le.mp x) (by rw [nI_toInt (by omega)]; show ¬ (c : Int) ≤ -6; omega)) c_338 | exact absurd c_338 (by rw [e]; exact fun x => absurd (Int32.le_iff_toInt_le.mp x) (by rw [nI_toInt (by omega)]; show ¬ (c : Int) ≤ -6; omega))
                    · refine gx_iconst (v := nI 1) hC dL_sound_341 ic_1n ?_
                      refine gx_goto (tgt := 346) hC dL_sound_342 (by decide) ?_
                      refine gx_istore (i := 5) (L' := [_, _, _, _, _, _, _, _, _]) hC dL_sound_346 (Nat.le_of_ble_eq_true rfl) rfl (fun u h9 => by first | exact Or.inl rfl | (cases h9; done) | (right; cases h9; first | rfl | exact isR_cat aref_isR | exact isR_cat kv_isR)) ?_
                      refine gx_iinc (i := 7) (L' := [_, _, _, _, _, _, _, _, _]) hC dL_sound_348 rfl (ii_1 _) (Nat.le_of_ble_eq_true rfl) rfl (fun u h9 => by first | exact Or.inl rfl | (cases h9; done) | (right; cases h9; first | rfl | exact isR_cat aref_isR | exact isR_cat kv_isR)) ?_
                      refine gx_goto (tgt := 293) hC dL_sound_351 (by decide) ?_
                      have h9 := ih (k2 + 1) w8 (by omega) (by omega)
                      rw [show sm (fun i => oG (fun _ => 1) (mOn v (nI i) c)) (k2 + 1) = sm (fun i => oG (fun _ => 1) (mOn v (nI i) c)) k2 + 0 from by rw [sm, e]; rfl] at h9
                      exact h9
                  · first | exact absurd (by rw [e]; decide) c_316 | exact absurd c_316 (by rw [e]; decide)
              | some b =>
                refine gx_iload hC dL_sound_303 rfl ?_
                refine gx_if_eq (tgt := 354) hC dL_sound_305 (by decide) (fun c_305 => ?_) (fun c_305 => ?_)
                · first | exact absurd (by decide) c_305 | exact absurd c_305 (by decide)
                · refine gx_iload hC dL_sound_308 rfl ?_
                  refine gx_aload_n (i := 0) hC dL_sound_310 rfl rfl (by first | exact Or.inr ⟨_, rfl⟩ | exact Or.inl rfl) ?_
                  refine gx_iload hC dL_sound_311 rfl ?_
                  refine gx_callV1 hC dL_sound_313 (tle h hk2) kY_X6_level kV_X6_level ml_L_19 (by exact h.gs.at0) rfl (by decide) rfl rfl rfl (by first | exact Nat.le_of_ble_eq_true rfl | (simp [Value.category, isR_cat kv_isR, isR_cat aref_isR]; done)) (Nat.le_refl _) (Nat.le_refl _) ?_
                  refine gx_if_lt (tgt := 323) hC dL_sound_316 (by decide) (fun c_316 => ?_) (fun c_316 => ?_)
                  · first | exact absurd (by rw [e]; exact nI_pos (by have := (mOn_lt e).1; omega)) c_316 | exact absurd c_316 (by rw [e]; exact nI_pos (by have := (mOn_lt e).1; omega))
                  · refine gx_iconst (v := 1) hC dL_sound_319 ic_1 ?_
                    refine gx_goto (tgt := 324) hC dL_sound_320 (by decide) ?_
                    refine gx_iadd hC dL_sound_324 ?_
                    refine gx_istore (i := 6) (L' := [_, _, _, _, _, _, _, _, _]) hC dL_sound_325 (Nat.le_of_ble_eq_true rfl) rfl (fun u h9 => by first | exact Or.inl rfl | (cases h9; done) | (right; cases h9; first | rfl | exact isR_cat aref_isR | exact isR_cat kv_isR)) ?_
                    refine gx_aload_n (i := 0) hC dL_sound_327 rfl rfl (by first | exact Or.inr ⟨_, rfl⟩ | exact Or.inl rfl) ?_
                    refine gx_iload hC dL_sound_328 rfl ?_
                    refine gx_callV1 hC dL_sound_330 (tle h hk2) kY_X6_level kV_X6_level ml_L_19 (by exact h.gs.at0) rfl (by decide) rfl rfl rfl (by first | exact Nat.le_of_ble_eq_true rfl | (simp [Value.category, isR_cat kv_isR, isR_cat aref_isR]; done)) (Nat.le_refl _) (Nat.le_refl _) ?_
                    refine gx_aload_n (i := 0) hC dL_sound_333 rfl rfl (by first | exact Or.inr ⟨_, rfl⟩ | exact Or.inl rfl) ?_
                    refine gx_iconst (v := nI 3) hC dL_sound_334 ic_3n ?_
                    refine gx_callV1 hC dL_sound_335 (tt3 h) kY_X6_tell kV_X6_tell ml_L_9 (by exact h.gs.at0) rfl (by decide) rfl rfl rfl (by first | exact Nat.le_of_ble_eq_true rfl | (simp [Value.category, isR_cat kv_isR, isR_cat aref_isR]; done)) (Nat.le_refl _) (Nat.le_refl _) ?_
                    refine gx_icmp_ge (tgt := 345) hC dL_sound_338 (by decide) (fun c_338 => ?_) (fun c_338 => ?_)
                    · first | exact absurd (by rw [e]; exact nI_ge (mOn_lt e).1 (by omega)) c_338 | exact absurd c_338 (by rw [e]; exact nI_ge (mOn_lt e).1 (by omega))
                    · refine gx_iconst (v := nI 1) hC dL_sound_341 ic_1n ?_
                      refine gx_goto (tgt := 346) hC dL_sound_342 (by decide) ?_
                      refine gx_istore (i := 5) (L' := [_, _, _, _, _, _, _, _, _]) hC dL_sound_346 (Nat.le_of_ble_eq_true rfl) rfl (fun u h9 => by first | exact Or.inl rfl | (cases h9; done) | (right; cases h9; first | rfl | exact isR_cat aref_isR | exact isR_cat kv_isR)) ?_
                      refine gx_iinc (i := 7) (L' := [_, _, _, _, _, _, _, _, _]) hC dL_sound_348 rfl (ii_1 _) (Nat.le_of_ble_eq_true rfl) rfl (fun u h9 => by first | exact Or.inl rfl | (cases h9; done) | (right; cases h9; first | rfl | exact isR_cat aref_isR | exact isR_cat kv_isR)) ?_
                      refine gx_goto (tgt := 293) hC dL_sound_351 (by decide) ?_
                      have h9 := ih (k2 + 1) w8 (by omega) (by omega)
                      rw [show sm (fun i => oG (fun _ => 1) (mOn v (nI i) c)) (k2 + 1) = sm (fun i => oG (fun _ => 1) (mOn v (nI i) c)) k2 + 1 from by rw [sm, e]; rfl] at h9
                      exact h9
        exact loop_293 (lv + 1) 0 _ (by omega) (by omega)
      · have hj : j < c := by have := mt (nI_leI (show c < 2 ^ 31 by omega) (show j < 2 ^ 31 by omega)).mpr c_26; omega
        refine gx_iload hC dL_sound_29 rfl ?_
        refine gx_if_eq (tgt := 287) hC dL_sound_31 (by decide) (fun c_31 => ?_) (fun c_31 => ?_)
        · first | exact absurd (by decide) c_31 | exact absurd c_31 (by decide)
        · obtain ⟨u, hu, eu⟩ := (h.rl.wv.ac hj).fu
          by_cases h0 : v (14 + 7 * j + 2) = 0
          · obtain ⟨p, r, hp, hr, ep, er⟩ := (h.rl.wv.ac hj).pl h0
            by_cases hs : mSh v j = true
            · refine gx_aload_n (i := 0) hC dL_sound_34 rfl rfl (by first | exact Or.inr ⟨_, rfl⟩ | exact Or.inl rfl) ?_
              refine gx_iload hC dL_sound_35 rfl ?_
              refine gx_iconst (v := nI 2) hC dL_sound_37 ic_2n ?_
              refine gx_callV1 hC dL_sound_38 (ta2 h hj) kY_X6_aircraft kV_X6_aircraft ml_L_15 (by exact h.gs.at0) rfl (by decide) rfl rfl rfl (by first | exact Nat.le_of_ble_eq_true rfl | (simp [Value.category, isR_cat kv_isR, isR_cat aref_isR]; done)) (Nat.le_refl _) (Nat.le_refl _) ?_
              refine gx_istore (i := 7) (L' := [_, _, _, _, _, _, _, _, _]) hC dL_sound_41 (Nat.le_of_ble_eq_true rfl) rfl (fun u h9 => by first | exact Or.inl rfl | (cases h9; done) | (right; cases h9; first | rfl | exact isR_cat aref_isR | exact isR_cat kv_isR)) ?_
              refine gx_iload_n (i := 2) hC dL_sound_43 rfl rfl ?_
              refine gx_iload hC dL_sound_44 rfl ?_
              refine gx_if_ne (tgt := 53) hC dL_sound_46 (by decide) (fun c_46 => ?_) (fun c_46 => ?_)
              · first | exact absurd (by exact h0) c_46 | exact absurd c_46 (by exact h0)
              · refine gx_iconst (v := 1) hC dL_sound_49 ic_1 ?_
                refine gx_goto (tgt := 54) hC dL_sound_50 (by decide) ?_
                refine gx_iadd hC dL_sound_54 ?_
                refine gx_istore_n (i := 2) (L' := [_, _, _, _, _, _, _, _, _]) hC dL_sound_55 rfl (Nat.le_of_ble_eq_true rfl) rfl (fun u h9 => by first | exact Or.inl rfl | (cases h9; done) | (right; cases h9; first | rfl | exact isR_cat aref_isR | exact isR_cat kv_isR)) ?_
                refine gx_iload_n (i := 3) hC dL_sound_56 rfl rfl ?_
                refine gx_iload hC dL_sound_57 rfl ?_
                refine gx_iconst (v := nI 1) hC dL_sound_59 ic_1n ?_
                refine gx_icmp_ne (tgt := 67) hC dL_sound_60 (by decide) (fun c_60 => ?_) (fun c_60 => ?_)
                · refine gx_iconst (v := 0) hC dL_sound_67 ic_0 ?_
                  refine gx_iadd hC dL_sound_68 ?_
                  refine gx_istore_n (i := 3) (L' := [_, _, _, _, _, _, _, _, _]) hC dL_sound_69 rfl (Nat.le_of_ble_eq_true rfl) rfl (fun u h9 => by first | exact Or.inl rfl | (cases h9; done) | (right; cases h9; first | rfl | exact isR_cat aref_isR | exact isR_cat kv_isR)) ?_
                  refine gx_iload_n (i := 1) hC dL_sound_70 rfl rfl ?_
                  refine gx_iload hC dL_sound_71 rfl ?_
                  refine gx_if_ne (tgt := 86) hC dL_sound_73 (by decide) (fun c_73 => ?_) (fun c_73 => ?_)
                  · first | exact absurd (by exact h0) c_73 | exact absurd c_73 (by exact h0)
                  · refine gx_aload_n (i := 0) hC dL_sound_76 rfl rfl (by first | exact Or.inr ⟨_, rfl⟩ | exact Or.inl rfl) ?_
                    refine gx_iload hC dL_sound_77 rfl ?_
                    refine gx_iconst (v := nI 1) hC dL_sound_79 ic_1n ?_
                    refine gx_callV1 hC dL_sound_80 (ta1 h hj) kY_X6_aircraft kV_X6_aircraft ml_L_15 (by exact h.gs.at0) rfl (by decide) rfl rfl rfl (by first | exact Nat.le_of_ble_eq_true rfl | (simp [Value.category, isR_cat kv_isR, isR_cat aref_isR]; done)) (Nat.le_refl _) (Nat.le_refl _) ?_
                    refine gx_goto (tgt := 87) hC dL_sound_83 (by decide) ?_
                    refine gx_iadd hC dL_sound_87 ?_
                    refine gx_istore_n (i := 1) (L' := [_, _, _, _, _, _, _, _, _]) hC dL_sound_88 rfl (Nat.le_of_ble_eq_true rfl) rfl (fun u h9 => by first | exact Or.inl rfl | (cases h9; done) | (right; cases h9; first | rfl | exact isR_cat aref_isR | exact isR_cat kv_isR)) ?_
                    refine gx_aload_n (i := 0) hC dL_sound_89 rfl rfl (by first | exact Or.inr ⟨_, rfl⟩ | exact Or.inl rfl) ?_
                    refine gx_iload hC dL_sound_90 rfl ?_
                    refine gx_iconst (v := nI 3) hC dL_sound_92 ic_3n ?_
                    refine gx_callV1 hC dL_sound_93 (ta_h h hj h0 (w := 3) (by decide) (by decide)) kY_X6_aircraft kV_X6_aircraft ml_L_15 (by exact h.gs.at0) rfl (by decide) rfl rfl rfl (by first | exact Nat.le_of_ble_eq_true rfl | (simp [Value.category, isR_cat kv_isR, isR_cat aref_isR]; done)) (Nat.le_refl _) (Nat.le_refl _) ?_
                    refine gx_istore (i := 8) (L' := [_, _, _, _, _, _, _, _, _]) hC dL_sound_96 (Nat.le_of_ble_eq_true rfl) rfl (fun u h9 => by first | exact Or.inl rfl | (cases h9; done) | (right; cases h9; first | rfl | exact isR_cat aref_isR | exact isR_cat kv_isR)) ?_
                    refine gx_aload_n (i := 0) hC dL_sound_98 rfl rfl (by first | exact Or.inr ⟨_, rfl⟩ | exact Or.inl rfl) ?_
                    refine gx_iload hC dL_sound_99 rfl ?_
                    refine gx_iconst (v := nI 1) hC dL_sound_101 ic_1n ?_
                    refine gx_callV1 hC dL_sound_102 (ta1 h hj) kY_X6_aircraft kV_X6_aircraft ml_L_15 (by exact h.gs.at0) rfl (by decide) rfl rfl rfl (by first | exact Nat.le_of_ble_eq_true rfl | (simp [Value.category, isR_cat kv_isR, isR_cat aref_isR]; done)) (Nat.le_refl _) (Nat.le_refl _) ?_
                    refine gx_if_lt (tgt := 211) hC dL_sound_105 (by decide) (fun c_105 => ?_) (fun c_105 => ?_)
                    · first | exact absurd (by rw [eu]; exact nI_pos (by omega)) c_105 | exact absurd c_105 (by rw [eu]; exact nI_pos (by omega))
                    · refine gx_iload hC dL_sound_108 rfl ?_
                      refine gx_if_ne (tgt := 162) hC dL_sound_110 (by decide) (fun c_110 => ?_) (fun c_110 => ?_)
                      · first | exact absurd (by exact h0) c_110 | exact absurd c_110 (by exact h0)
                      · refine gx_aload_n (i := 0) hC dL_sound_113 rfl rfl (by first | exact Or.inr ⟨_, rfl⟩ | exact Or.inl rfl) ?_
                        refine gx_iload hC dL_sound_114 rfl ?_
                        refine gx_callV1 hC dL_sound_116 (tleh h hj h0) kY_X6_level kV_X6_level ml_L_19 (by exact h.gs.at0) rfl (by decide) rfl rfl rfl (by first | exact Nat.le_of_ble_eq_true rfl | (simp [Value.category, isR_cat kv_isR, isR_cat aref_isR]; done)) (Nat.le_refl _) (Nat.le_refl _) ?_
                        refine gx_iload hC dL_sound_119 rfl ?_
                        refine gx_icmp_ne (tgt := 211) hC dL_sound_121 (by decide) (fun c_121 => ?_) (fun c_121 => ?_)
                        · first | exact absurd (by rfl) c_121 | exact absurd c_121 (by rfl)
                        · refine gx_aload_n (i := 0) hC dL_sound_124 rfl rfl (by first | exact Or.inr ⟨_, rfl⟩ | exact Or.inl rfl) ?_
                          refine gx_iload hC dL_sound_125 rfl ?_
                          refine gx_iconst (v := nI 4) hC dL_sound_127 ic_4n ?_
                          refine gx_callV1 hC dL_sound_128 (ta_h h hj h0 (w := 4) (by decide) (by decide)) kY_X6_aircraft kV_X6_aircraft ml_L_15 (by exact h.gs.at0) rfl (by decide) rfl rfl rfl (by first | exact Nat.le_of_ble_eq_true rfl | (simp [Value.category, isR_cat kv_isR, isR_cat aref_isR]; done)) (Nat.le_refl _) (Nat.le_refl _) ?_
                          refine gx_if_lt (tgt := 211) hC dL_sound_131 (by decide) (fun c_131 => ?_) (fun c_131 => ?_)
                          · first | exact absurd (by rw [ep]; exact nI_pos (by omega)) c_131 | exact absurd c_131 (by rw [ep]; exact nI_pos (by omega))
                          · refine gx_aload_n (i := 0) hC dL_sound_134 rfl rfl (by first | exact Or.inr ⟨_, rfl⟩ | exact Or.inl rfl) ?_
                            refine gx_iload hC dL_sound_135 rfl ?_
                            refine gx_iconst (v := nI 4) hC dL_sound_137 ic_4n ?_
                            refine gx_callV1 hC dL_sound_138 (ta_h h hj h0 (w := 4) (by decide) (by decide)) kY_X6_aircraft kV_X6_aircraft ml_L_15 (by exact h.gs.at0) rfl (by decide) rfl rfl rfl (by first | exact Nat.le_of_ble_eq_true rfl | (simp [Value.category, isR_cat kv_isR, isR_cat aref_isR]; done)) (Nat.le_refl _) (Nat.le_refl _) ?_
                            refine gx_iload hC dL_sound_141 rfl ?_
                            refine gx_icmp_ge (tgt := 211) hC dL_sound_143 (by decide) (fun c_143 => ?_) (fun c_143 => ?_)
                            · first | exact absurd (by rw [ep, er]; exact nI_ge hp (by omega)) c_143 | exact absurd c_143 (by rw [ep, er]; exact nI_ge hp (by omega))
                            · refine gx_aload_n (i := 0) hC dL_sound_146 rfl rfl (by first | exact Or.inr ⟨_, rfl⟩ | exact Or.inl rfl) ?_
                              refine gx_iload hC dL_sound_147 rfl ?_
                              refine gx_bipush (v := nI 7) hC dL_sound_149 bp_7n ?_
                              refine gx_callV1 hC dL_sound_151 (ta7h h hj h0) kY_X6_aircraft kV_X6_aircraft ml_L_15 (by exact h.gs.at0) rfl (by decide) rfl rfl rfl (by first | exact Nat.le_of_ble_eq_true rfl | (simp [Value.category, isR_cat kv_isR, isR_cat aref_isR]; done)) (Nat.le_refl _) (Nat.le_refl _) ?_
                              refine gx_bipush (v := -6) hC dL_sound_154 bp_m6 ?_
                              refine gx_icmp_ne (tgt := 211) hC dL_sound_156 (by decide) (fun c_156 => ?_) (fun c_156 => ?_)
                              · first | exact absurd (by rfl) c_156 | exact absurd c_156 (by rfl)
                              · refine gx_goto (tgt := 207) hC dL_sound_159 (by decide) ?_
                                refine gx_iconst (v := nI 1) hC dL_sound_207 ic_1n ?_
                                refine gx_goto (tgt := 212) hC dL_sound_208 (by decide) ?_
                                refine gx_istore (i := 5) (L' := [_, _, _, _, _, _, _, _, _]) hC dL_sound_212 (Nat.le_of_ble_eq_true rfl) rfl (fun u h9 => by first | exact Or.inl rfl | (cases h9; done) | (right; cases h9; first | rfl | exact isR_cat aref_isR | exact isR_cat kv_isR)) ?_
                                refine gx_iload hC dL_sound_214 rfl ?_
                                refine gx_if_eq (tgt := 278) hC dL_sound_216 (by decide) (fun c_216 => ?_) (fun c_216 => ?_)
                                · first | exact absurd (by decide) c_216 | exact absurd c_216 (by decide)
                                · refine gx_iload hC dL_sound_219 rfl ?_
                                  refine gx_if_ne (tgt := 258) hC dL_sound_221 (by decide) (fun c_221 => ?_) (fun c_221 => ?_)
                                  · first | exact absurd (by exact h0) c_221 | exact absurd c_221 (by exact h0)
                                  · refine gx_aload_n (i := 0) hC dL_sound_224 rfl rfl (by first | exact Or.inr ⟨_, rfl⟩ | exact Or.inl rfl) ?_
                                    refine gx_iload hC dL_sound_225 rfl ?_
                                    refine gx_bipush (v := nI 6) hC dL_sound_227 bp_6n ?_
                                    refine gx_callV1 hC dL_sound_229 (ta6 h hj) kY_X6_aircraft kV_X6_aircraft ml_L_15 (by exact h.gs.at0) rfl (by decide) rfl rfl rfl (by first | exact Nat.le_of_ble_eq_true rfl | (simp [Value.category, isR_cat kv_isR, isR_cat aref_isR]; done)) (Nat.le_refl _) (Nat.le_refl _) ?_
                                    refine gx_iconst (v := nI 1) hC dL_sound_232 ic_1n ?_
                                    refine gx_icmp_ne (tgt := 240) hC dL_sound_233 (by decide) (fun c_233 => ?_) (fun c_233 => ?_)
                                    · first | exact absurd (by rw [hs]; rfl) c_233 | exact absurd c_233 (by rw [hs]; rfl)
                                    · refine gx_iconst (v := nI 1) hC dL_sound_236 ic_1n ?_
                                      refine gx_goto (tgt := 241) hC dL_sound_237 (by decide) ?_
                                      refine gx_aload_n (i := 0) hC dL_sound_241 rfl rfl (by first | exact Or.inr ⟨_, rfl⟩ | exact Or.inl rfl) ?_
                                      refine gx_iload hC dL_sound_242 rfl ?_
                                      refine gx_callV1 hC dL_sound_244 (te_s h hj h0 hs) kY_X6_endurance kV_X6_endurance ml_L_25 (by exact h.gs.at0) rfl (by decide) rfl rfl rfl (by first | exact Nat.le_of_ble_eq_true rfl | (simp [Value.category, isR_cat kv_isR, isR_cat aref_isR]; done)) (Nat.le_refl _) (Nat.le_refl _) ?_
                                      refine gx_if_ne (tgt := 254) hC dL_sound_247 (by decide) (fun c_247 => ?_) (fun c_247 => ?_)
                                      · first | exact absurd (by rfl) c_247 | exact absurd c_247 (by rfl)
                                      · refine gx_iconst (v := 1) hC dL_sound_250 ic_1 ?_
                                        refine gx_goto (tgt := 255) hC dL_sound_251 (by decide) ?_
                                        refine gx_icmp_ne (tgt := 278) hC dL_sound_255 (by decide) (fun c_255 => ?_) (fun c_255 => ?_)
                                        · first | exact absurd (by rfl) c_255 | exact absurd c_255 (by rfl)
                                        · refine gx_iload hC dL_sound_258 rfl ?_
                                          refine gx_if_eq (tgt := 274) hC dL_sound_260 (by decide) (fun c_260 => ?_) (fun c_260 => ?_)
                                          · refine gx_iconst (v := nI 1) hC dL_sound_274 ic_1n ?_
                                            refine gx_goto (tgt := 279) hC dL_sound_275 (by decide) ?_
                                            refine gx_istore (i := 5) (L' := [_, _, _, _, _, _, _, _, _]) hC dL_sound_279 (Nat.le_of_ble_eq_true rfl) rfl (fun u h9 => by first | exact Or.inl rfl | (cases h9; done) | (right; cases h9; first | rfl | exact isR_cat aref_isR | exact isR_cat kv_isR)) ?_
                                            refine gx_iinc (i := 6) (L' := [_, _, _, _, _, _, _, _, _]) hC dL_sound_281 rfl (ii_1 _) (Nat.le_of_ble_eq_true rfl) rfl (fun u h9 => by first | exact Or.inl rfl | (cases h9; done) | (right; cases h9; first | rfl | exact isR_cat aref_isR | exact isR_cat kv_isR)) ?_
                                            refine gx_goto (tgt := 19) hC dL_sound_284 (by decide) ?_
                                            have h9 := fun w7 w8 => ih (j + 1) w7 w8 (by omega) (by omega)
                                            rw [mCnt_t h0, mCnt_f (by rw [h0]; decide), show sm (sF v) (j + 1) = sm (sF v) j + v (14 + 7 * j + 1) from by rw [sm, sF, if_pos h0]] at h9
                                            exact h9 _ _
                                          · first | exact absurd (by exact h0) c_260 | exact absurd c_260 (by exact h0)
                · first | exact absurd (by rw [h0]; decide) c_60 | exact absurd c_60 (by rw [h0]; decide)
            · refine gx_aload_n (i := 0) hC dL_sound_34 rfl rfl (by first | exact Or.inr ⟨_, rfl⟩ | exact Or.inl rfl) ?_
              refine gx_iload hC dL_sound_35 rfl ?_
              refine gx_iconst (v := nI 2) hC dL_sound_37 ic_2n ?_
              refine gx_callV1 hC dL_sound_38 (ta2 h hj) kY_X6_aircraft kV_X6_aircraft ml_L_15 (by exact h.gs.at0) rfl (by decide) rfl rfl rfl (by first | exact Nat.le_of_ble_eq_true rfl | (simp [Value.category, isR_cat kv_isR, isR_cat aref_isR]; done)) (Nat.le_refl _) (Nat.le_refl _) ?_
              refine gx_istore (i := 7) (L' := [_, _, _, _, _, _, _, _, _]) hC dL_sound_41 (Nat.le_of_ble_eq_true rfl) rfl (fun u h9 => by first | exact Or.inl rfl | (cases h9; done) | (right; cases h9; first | rfl | exact isR_cat aref_isR | exact isR_cat kv_isR)) ?_
              refine gx_iload_n (i := 2) hC dL_sound_43 rfl rfl ?_
              refine gx_iload hC dL_sound_44 rfl ?_
              refine gx_if_ne (tgt := 53) hC dL_sound_46 (by decide) (fun c_46 => ?_) (fun c_46 => ?_)
              · first | exact absurd (by exact h0) c_46 | exact absurd c_46 (by exact h0)
              · refine gx_iconst (v := 1) hC dL_sound_49 ic_1 ?_
                refine gx_goto (tgt := 54) hC dL_sound_50 (by decide) ?_
                refine gx_iadd hC dL_sound_54 ?_
                refine gx_istore_n (i := 2) (L' := [_, _, _, _, _, _, _, _, _]) hC dL_sound_55 rfl (Nat.le_of_ble_eq_true rfl) rfl (fun u h9 => by first | exact Or.inl rfl | (cases h9; done) | (right; cases h9; first | rfl | exact isR_cat aref_isR | exact isR_cat kv_isR)) ?_
                refine gx_iload_n (i := 3) hC dL_sound_56 rfl rfl ?_
                refine gx_iload hC dL_sound_57 rfl ?_
                refine gx_iconst (v := nI 1) hC dL_sound_59 ic_1n ?_
                refine gx_icmp_ne (tgt := 67) hC dL_sound_60 (by decide) (fun c_60 => ?_) (fun c_60 => ?_)
                · refine gx_iconst (v := 0) hC dL_sound_67 ic_0 ?_
                  refine gx_iadd hC dL_sound_68 ?_
                  refine gx_istore_n (i := 3) (L' := [_, _, _, _, _, _, _, _, _]) hC dL_sound_69 rfl (Nat.le_of_ble_eq_true rfl) rfl (fun u h9 => by first | exact Or.inl rfl | (cases h9; done) | (right; cases h9; first | rfl | exact isR_cat aref_isR | exact isR_cat kv_isR)) ?_
                  refine gx_iload_n (i := 1) hC dL_sound_70 rfl rfl ?_
                  refine gx_iload hC dL_sound_71 rfl ?_
                  refine gx_if_ne (tgt := 86) hC dL_sound_73 (by decide) (fun c_73 => ?_) (fun c_73 => ?_)
                  · first | exact absurd (by exact h0) c_73 | exact absurd c_73 (by exact h0)
                  · refine gx_aload_n (i := 0) hC dL_sound_76 rfl rfl (by first | exact Or.inr ⟨_, rfl⟩ | exact Or.inl rfl) ?_
                    refine gx_iload hC dL_sound_77 rfl ?_
                    refine gx_iconst (v := nI 1) hC dL_sound_79 ic_1n ?_
                    refine gx_callV1 hC dL_sound_80 (ta1 h hj) kY_X6_aircraft kV_X6_aircraft ml_L_15 (by exact h.gs.at0) rfl (by decide) rfl rfl rfl (by first | exact Nat.le_of_ble_eq_true rfl | (simp [Value.category, isR_cat kv_isR, isR_cat aref_isR]; done)) (Nat.le_refl _) (Nat.le_refl _) ?_
                    refine gx_goto (tgt := 87) hC dL_sound_83 (by decide) ?_
                    refine gx_iadd hC dL_sound_87 ?_
                    refine gx_istore_n (i := 1) (L' := [_, _, _, _, _, _, _, _, _]) hC dL_sound_88 rfl (Nat.le_of_ble_eq_true rfl) rfl (fun u h9 => by first | exact Or.inl rfl | (cases h9; done) | (right; cases h9; first | rfl | exact isR_cat aref_isR | exact isR_cat kv_isR)) ?_
                    refine gx_aload_n (i := 0) hC dL_sound_89 rfl rfl (by first | exact Or.inr ⟨_, rfl⟩ | exact Or.inl rfl) ?_
                    refine gx_iload hC dL_sound_90 rfl ?_
                    refine gx_iconst (v := nI 3) hC dL_sound_92 ic_3n ?_
                    refine gx_callV1 hC dL_sound_93 (ta_h h hj h0 (w := 3) (by decide) (by decide)) kY_X6_aircraft kV_X6_aircraft ml_L_15 (by exact h.gs.at0) rfl (by decide) rfl rfl rfl (by first | exact Nat.le_of_ble_eq_true rfl | (simp [Value.category, isR_cat kv_isR, isR_cat aref_isR]; done)) (Nat.le_refl _) (Nat.le_refl _) ?_
                    refine gx_istore (i := 8) (L' := [_, _, _, _, _, _, _, _, _]) hC dL_sound_96 (Nat.le_of_ble_eq_true rfl) rfl (fun u h9 => by first | exact Or.inl rfl | (cases h9; done) | (right; cases h9; first | rfl | exact isR_cat aref_isR | exact isR_cat kv_isR)) ?_
                    refine gx_aload_n (i := 0) hC dL_sound_98 rfl rfl (by first | exact Or.inr ⟨_, rfl⟩ | exact Or.inl rfl) ?_
                    refine gx_iload hC dL_sound_99 rfl ?_
                    refine gx_iconst (v := nI 1) hC dL_sound_101 ic_1n ?_
                    refine gx_callV1 hC dL_sound_102 (ta1 h hj) kY_X6_aircraft kV_X6_aircraft ml_L_15 (by exact h.gs.at0) rfl (by decide) rfl rfl rfl (by first | exact Nat.le_of_ble_eq_true rfl | (simp [Value.category, isR_cat kv_isR, isR_cat aref_isR]; done)) (Nat.le_refl _) (Nat.le_refl _) ?_
                    refine gx_if_lt (tgt := 211) hC dL_sound_105 (by decide) (fun c_105 => ?_) (fun c_105 => ?_)
                    · first | exact absurd (by rw [eu]; exact nI_pos (by omega)) c_105 | exact absurd c_105 (by rw [eu]; exact nI_pos (by omega))
                    · refine gx_iload hC dL_sound_108 rfl ?_
                      refine gx_if_ne (tgt := 162) hC dL_sound_110 (by decide) (fun c_110 => ?_) (fun c_110 => ?_)
                      · first | exact absurd (by exact h0) c_110 | exact absurd c_110 (by exact h0)
                      · refine gx_aload_n (i := 0) hC dL_sound_113 rfl rfl (by first | exact Or.inr ⟨_, rfl⟩ | exact Or.inl rfl) ?_
                        refine gx_iload hC dL_sound_114 rfl ?_
                        refine gx_callV1 hC dL_sound_116 (tleh h hj h0) kY_X6_level kV_X6_level ml_L_19 (by exact h.gs.at0) rfl (by decide) rfl rfl rfl (by first | exact Nat.le_of_ble_eq_true rfl | (simp [Value.category, isR_cat kv_isR, isR_cat aref_isR]; done)) (Nat.le_refl _) (Nat.le_refl _) ?_
                        refine gx_iload hC dL_sound_119 rfl ?_
                        refine gx_icmp_ne (tgt := 211) hC dL_sound_121 (by decide) (fun c_121 => ?_) (fun c_121 => ?_)
                        · first | exact absurd (by rfl) c_121 | exact absurd c_121 (by rfl)
                        · refine gx_aload_n (i := 0) hC dL_sound_124 rfl rfl (by first | exact Or.inr ⟨_, rfl⟩ | exact Or.inl rfl) ?_
                          refine gx_iload hC dL_sound_125 rfl ?_
                          refine gx_iconst (v := nI 4) hC dL_sound_127 ic_4n ?_
                          refine gx_callV1 hC dL_sound_128 (ta_h h hj h0 (w := 4) (by decide) (by decide)) kY_X6_aircraft kV_X6_aircraft ml_L_15 (by exact h.gs.at0) rfl (by decide) rfl rfl rfl (by first | exact Nat.le_of_ble_eq_true rfl | (simp [Value.category, isR_cat kv_isR, isR_cat aref_isR]; done)) (Nat.le_refl _) (Nat.le_refl _) ?_
                          refine gx_if_lt (tgt := 211) hC dL_sound_131 (by decide) (fun c_131 => ?_) (fun c_131 => ?_)
                          · first | exact absurd (by rw [ep]; exact nI_pos (by omega)) c_131 | exact absurd c_131 (by rw [ep]; exact nI_pos (by omega))
                          · refine gx_aload_n (i := 0) hC dL_sound_134 rfl rfl (by first | exact Or.inr ⟨_, rfl⟩ | exact Or.inl rfl) ?_
                            refine gx_iload hC dL_sound_135 rfl ?_
                            refine gx_iconst (v := nI 4) hC dL_sound_137 ic_4n ?_
                            refine gx_callV1 hC dL_sound_138 (ta_h h hj h0 (w := 4) (by decide) (by decide)) kY_X6_aircraft kV_X6_aircraft ml_L_15 (by exact h.gs.at0) rfl (by decide) rfl rfl rfl (by first | exact Nat.le_of_ble_eq_true rfl | (simp [Value.category, isR_cat kv_isR, isR_cat aref_isR]; done)) (Nat.le_refl _) (Nat.le_refl _) ?_
                            refine gx_iload hC dL_sound_141 rfl ?_
                            refine gx_icmp_ge (tgt := 211) hC dL_sound_143 (by decide) (fun c_143 => ?_) (fun c_143 => ?_)
                            · first | exact absurd (by rw [ep, er]; exact nI_ge hp (by omega)) c_143 | exact absurd c_143 (by rw [ep, er]; exact nI_ge hp (by omega))
                            · refine gx_aload_n (i := 0) hC dL_sound_146 rfl rfl (by first | exact Or.inr ⟨_, rfl⟩ | exact Or.inl rfl) ?_
                              refine gx_iload hC dL_sound_147 rfl ?_
                              refine gx_bipush (v := nI 7) hC dL_sound_149 bp_7n ?_
                              refine gx_callV1 hC dL_sound_151 (ta7h h hj h0) kY_X6_aircraft kV_X6_aircraft ml_L_15 (by exact h.gs.at0) rfl (by decide) rfl rfl rfl (by first | exact Nat.le_of_ble_eq_true rfl | (simp [Value.category, isR_cat kv_isR, isR_cat aref_isR]; done)) (Nat.le_refl _) (Nat.le_refl _) ?_
                              refine gx_bipush (v := -6) hC dL_sound_154 bp_m6 ?_
                              refine gx_icmp_ne (tgt := 211) hC dL_sound_156 (by decide) (fun c_156 => ?_) (fun c_156 => ?_)
                              · first | exact absurd (by rfl) c_156 | exact absurd c_156 (by rfl)
                              · refine gx_goto (tgt := 207) hC dL_sound_159 (by decide) ?_
                                refine gx_iconst (v := nI 1) hC dL_sound_207 ic_1n ?_
                                refine gx_goto (tgt := 212) hC dL_sound_208 (by decide) ?_
                                refine gx_istore (i := 5) (L' := [_, _, _, _, _, _, _, _, _]) hC dL_sound_212 (Nat.le_of_ble_eq_true rfl) rfl (fun u h9 => by first | exact Or.inl rfl | (cases h9; done) | (right; cases h9; first | rfl | exact isR_cat aref_isR | exact isR_cat kv_isR)) ?_
                                refine gx_iload hC dL_sound_214 rfl ?_
                                refine gx_if_eq (tgt := 278) hC dL_sound_216 (by decide) (fun c_216 => ?_) (fun c_216 => ?_)
                                · first | exact absurd (by decide) c_216 | exact absurd c_216 (by decide)
                                · refine gx_iload hC dL_sound_219 rfl ?_
                                  refine gx_if_ne (tgt := 258) hC dL_sound_221 (by decide) (fun c_221 => ?_) (fun c_221 => ?_)
                                  · first | exact absurd (by exact h0) c_221 | exact absurd c_221 (by exact h0)
                                  · refine gx_aload_n (i := 0) hC dL_sound_224 rfl rfl (by first | exact Or.inr ⟨_, rfl⟩ | exact Or.inl rfl) ?_
                                    refine gx_iload hC dL_sound_225 rfl ?_
                                    refine gx_bipush (v := nI 6) hC dL_sound_227 bp_6n ?_
                                    refine gx_callV1 hC dL_sound_229 (ta6 h hj) kY_X6_aircraft kV_X6_aircraft ml_L_15 (by exact h.gs.at0) rfl (by decide) rfl rfl rfl (by first | exact Nat.le_of_ble_eq_true rfl | (simp [Value.category, isR_cat kv_isR, isR_cat aref_isR]; done)) (Nat.le_refl _) (Nat.le_refl _) ?_
                                    refine gx_iconst (v := nI 1) hC dL_sound_232 ic_1n ?_
                                    refine gx_icmp_ne (tgt := 240) hC dL_sound_233 (by decide) (fun c_233 => ?_) (fun c_233 => ?_)
                                    · refine gx_iconst (v := nI 0) hC dL_sound_240 ic_0n ?_
                                      refine gx_aload_n (i := 0) hC dL_sound_241 rfl rfl (by first | exact Or.inr ⟨_, rfl⟩ | exact Or.inl rfl) ?_
                                      refine gx_iload hC dL_sound_242 rfl ?_
                                      refine gx_callV1 hC dL_sound_244 (t_endu h hj) kY_X6_endurance kV_X6_endurance ml_L_25 (by exact h.gs.at0) rfl (by decide) rfl rfl rfl (by first | exact Nat.le_of_ble_eq_true rfl | (simp [Value.category, isR_cat kv_isR, isR_cat aref_isR]; done)) (Nat.le_refl _) (Nat.le_refl _) ?_
                                      refine gx_if_ne (tgt := 254) hC dL_sound_247 (by decide) (fun c_247 => ?_) (fun c_247 => ?_)
                                      · refine gx_iconst (v := 0) hC dL_sound_254 ic_0 ?_
                                        refine gx_icmp_ne (tgt := 278) hC dL_sound_255 (by decide) (fun c_255 => ?_) (fun c_255 => ?_)
                                        · first | exact absurd (by rfl) c_255 | exact absurd c_255 (by rfl)
                                        · refine gx_iload hC dL_sound_258 rfl ?_
                                          refine gx_if_eq (tgt := 274) hC dL_sound_260 (by decide) (fun c_260 => ?_) (fun c_260 => ?_)
                                          · refine gx_iconst (v := nI 1) hC dL_sound_274 ic_1n ?_
                                            refine gx_goto (tgt := 279) hC dL_sound_275 (by decide) ?_
                                            refine gx_istore (i := 5) (L' := [_, _, _, _, _, _, _, _, _]) hC dL_sound_279 (Nat.le_of_ble_eq_true rfl) rfl (fun u h9 => by first | exact Or.inl rfl | (cases h9; done) | (right; cases h9; first | rfl | exact isR_cat aref_isR | exact isR_cat kv_isR)) ?_
                                            refine gx_iinc (i := 6) (L' := [_, _, _, _, _, _, _, _, _]) hC dL_sound_281 rfl (ii_1 _) (Nat.le_of_ble_eq_true rfl) rfl (fun u h9 => by first | exact Or.inl rfl | (cases h9; done) | (right; cases h9; first | rfl | exact isR_cat aref_isR | exact isR_cat kv_isR)) ?_
                                            refine gx_goto (tgt := 19) hC dL_sound_284 (by decide) ?_
                                            have h9 := fun w7 w8 => ih (j + 1) w7 w8 (by omega) (by omega)
                                            rw [mCnt_t h0, mCnt_f (by rw [h0]; decide), show sm (sF v) (j + 1) = sm (sF v) j + v (14 + 7 * j + 1) from by rw [sm, sF, if_pos h0]] at h9
                                            exact h9 _ _
                                          · first | exact absurd (by exact h0) c_260 | exact absurd c_260 (by exact h0)
                                      · first | exact absurd (by exact fun x => hs ((mEu_s h.rl.wv hj h0).mpr x)) c_247 | exact absurd c_247 (by exact fun x => hs ((mEu_s h.rl.wv hj h0).mpr x))
                                    · first | exact absurd (by rw [show mSh v j = false from (Bool.not_eq_true _).mp hs]; decide) c_233 | exact absurd c_233 (by rw [show mSh v j = false from (Bool.not_eq_true _).mp hs]; decide)
                · first | exact absurd (by rw [h0]; decide) c_60 | exact absurd c_60 (by rw [h0]; decide)
          · obtain ⟨e, e1, e2⟩ := hgone j hj h0
            by_cases h1 : v (14 + 7 * j + 2) = 1
            · refine gx_aload_n (i := 0) hC dL_sound_34 rfl rfl (by first | exact Or.inr ⟨_, rfl⟩ | exact Or.inl rfl) ?_
              refine gx_iload hC dL_sound_35 rfl ?_
              refine gx_iconst (v := nI 2) hC dL_sound_37 ic_2n ?_
              refine gx_callV1 hC dL_sound_38 (ta2 h hj) kY_X6_aircraft kV_X6_aircraft ml_L_15 (by exact h.gs.at0) rfl (by decide) rfl rfl rfl (by first | exact Nat.le_of_ble_eq_true rfl | (simp [Value.category, isR_cat kv_isR, isR_cat aref_isR]; done)) (Nat.le_refl _) (Nat.le_refl _) ?_
              refine gx_istore (i := 7) (L' := [_, _, _, _, _, _, _, _, _]) hC dL_sound_41 (Nat.le_of_ble_eq_true rfl) rfl (fun u h9 => by first | exact Or.inl rfl | (cases h9; done) | (right; cases h9; first | rfl | exact isR_cat aref_isR | exact isR_cat kv_isR)) ?_
              refine gx_iload_n (i := 2) hC dL_sound_43 rfl rfl ?_
              refine gx_iload hC dL_sound_44 rfl ?_
              refine gx_if_ne (tgt := 53) hC dL_sound_46 (by decide) (fun c_46 => ?_) (fun c_46 => ?_)
              · refine gx_iconst (v := 0) hC dL_sound_53 ic_0 ?_
                refine gx_iadd hC dL_sound_54 ?_
                refine gx_istore_n (i := 2) (L' := [_, _, _, _, _, _, _, _, _]) hC dL_sound_55 rfl (Nat.le_of_ble_eq_true rfl) rfl (fun u h9 => by first | exact Or.inl rfl | (cases h9; done) | (right; cases h9; first | rfl | exact isR_cat aref_isR | exact isR_cat kv_isR)) ?_
                refine gx_iload_n (i := 3) hC dL_sound_56 rfl rfl ?_
                refine gx_iload hC dL_sound_57 rfl ?_
                refine gx_iconst (v := nI 1) hC dL_sound_59 ic_1n ?_
                refine gx_icmp_ne (tgt := 67) hC dL_sound_60 (by decide) (fun c_60 => ?_) (fun c_60 => ?_)
                · first | exact absurd (by exact h1) c_60 | exact absurd c_60 (by exact h1)
                · refine gx_iconst (v := 1) hC dL_sound_63 ic_1 ?_
                  refine gx_goto (tgt := 68) hC dL_sound_64 (by decide) ?_
                  refine gx_iadd hC dL_sound_68 ?_
                  refine gx_istore_n (i := 3) (L' := [_, _, _, _, _, _, _, _, _]) hC dL_sound_69 rfl (Nat.le_of_ble_eq_true rfl) rfl (fun u h9 => by first | exact Or.inl rfl | (cases h9; done) | (right; cases h9; first | rfl | exact isR_cat aref_isR | exact isR_cat kv_isR)) ?_
                  refine gx_iload_n (i := 1) hC dL_sound_70 rfl rfl ?_
                  refine gx_iload hC dL_sound_71 rfl ?_
                  refine gx_if_ne (tgt := 86) hC dL_sound_73 (by decide) (fun c_73 => ?_) (fun c_73 => ?_)
                  · refine gx_iconst (v := 0) hC dL_sound_86 ic_0 ?_
                    refine gx_iadd hC dL_sound_87 ?_
                    refine gx_istore_n (i := 1) (L' := [_, _, _, _, _, _, _, _, _]) hC dL_sound_88 rfl (Nat.le_of_ble_eq_true rfl) rfl (fun u h9 => by first | exact Or.inl rfl | (cases h9; done) | (right; cases h9; first | rfl | exact isR_cat aref_isR | exact isR_cat kv_isR)) ?_
                    refine gx_aload_n (i := 0) hC dL_sound_89 rfl rfl (by first | exact Or.inr ⟨_, rfl⟩ | exact Or.inl rfl) ?_
                    refine gx_iload hC dL_sound_90 rfl ?_
                    refine gx_iconst (v := nI 3) hC dL_sound_92 ic_3n ?_
                    refine gx_callV1 hC dL_sound_93 (ta_n h hj h0 (w := 3) (by decide) (by decide)) kY_X6_aircraft kV_X6_aircraft ml_L_15 (by exact h.gs.at0) rfl (by decide) rfl rfl rfl (by first | exact Nat.le_of_ble_eq_true rfl | (simp [Value.category, isR_cat kv_isR, isR_cat aref_isR]; done)) (Nat.le_refl _) (Nat.le_refl _) ?_
                    refine gx_istore (i := 8) (L' := [_, _, _, _, _, _, _, _, _]) hC dL_sound_96 (Nat.le_of_ble_eq_true rfl) rfl (fun u h9 => by first | exact Or.inl rfl | (cases h9; done) | (right; cases h9; first | rfl | exact isR_cat aref_isR | exact isR_cat kv_isR)) ?_
                    refine gx_aload_n (i := 0) hC dL_sound_98 rfl rfl (by first | exact Or.inr ⟨_, rfl⟩ | exact Or.inl rfl) ?_
                    refine gx_iload hC dL_sound_99 rfl ?_
                    refine gx_iconst (v := nI 1) hC dL_sound_101 ic_1n ?_
                    refine gx_callV1 hC dL_sound_102 (ta1 h hj) kY_X6_aircraft kV_X6_aircraft ml_L_15 (by exact h.gs.at0) rfl (by decide) rfl rfl rfl (by first | exact Nat.le_of_ble_eq_true rfl | (simp [Value.category, isR_cat kv_isR, isR_cat aref_isR]; done)) (Nat.le_refl _) (Nat.le_refl _) ?_
                    refine gx_if_lt (tgt := 211) hC dL_sound_105 (by decide) (fun c_105 => ?_) (fun c_105 => ?_)
                    · first | exact absurd (by rw [eu]; exact nI_pos (by omega)) c_105 | exact absurd c_105 (by rw [eu]; exact nI_pos (by omega))
                    · refine gx_iload hC dL_sound_108 rfl ?_
                      refine gx_if_ne (tgt := 162) hC dL_sound_110 (by decide) (fun c_110 => ?_) (fun c_110 => ?_)
                      · refine gx_iload hC dL_sound_162 rfl ?_
                        refine gx_bipush (v := -6) hC dL_sound_164 bp_m6 ?_
                        refine gx_icmp_ne (tgt := 211) hC dL_sound_166 (by decide) (fun c_166 => ?_) (fun c_166 => ?_)
                        · first | exact absurd (by rfl) c_166 | exact absurd c_166 (by rfl)
                        · refine gx_aload_n (i := 0) hC dL_sound_169 rfl rfl (by first | exact Or.inr ⟨_, rfl⟩ | exact Or.inl rfl) ?_
                          refine gx_iload hC dL_sound_170 rfl ?_
                          refine gx_iconst (v := nI 5) hC dL_sound_172 ic_5n ?_
                          refine gx_callV1 hC dL_sound_173 (ta_n h hj h0 (w := 5) (by decide) (by decide)) kY_X6_aircraft kV_X6_aircraft ml_L_15 (by exact h.gs.at0) rfl (by decide) rfl rfl rfl (by first | exact Nat.le_of_ble_eq_true rfl | (simp [Value.category, isR_cat kv_isR, isR_cat aref_isR]; done)) (Nat.le_refl _) (Nat.le_refl _) ?_
                          refine gx_bipush (v := -6) hC dL_sound_176 bp_m6 ?_
                          refine gx_icmp_ne (tgt := 211) hC dL_sound_178 (by decide) (fun c_178 => ?_) (fun c_178 => ?_)
                          · first | exact absurd (by rfl) c_178 | exact absurd c_178 (by rfl)
                          · refine gx_aload_n (i := 0) hC dL_sound_181 rfl rfl (by first | exact Or.inr ⟨_, rfl⟩ | exact Or.inl rfl) ?_
                            refine gx_iload hC dL_sound_182 rfl ?_
                            refine gx_bipush (v := nI 7) hC dL_sound_184 bp_7n ?_
                            refine gx_callV1 hC dL_sound_186 (ta7n h hj h0) kY_X6_aircraft kV_X6_aircraft ml_L_15 (by exact h.gs.at0) rfl (by decide) rfl rfl rfl (by first | exact Nat.le_of_ble_eq_true rfl | (simp [Value.category, isR_cat kv_isR, isR_cat aref_isR]; done)) (Nat.le_refl _) (Nat.le_refl _) ?_
                            refine gx_aload_n (i := 0) hC dL_sound_189 rfl rfl (by first | exact Or.inr ⟨_, rfl⟩ | exact Or.inl rfl) ?_
                            refine gx_iconst (v := nI 0) hC dL_sound_190 ic_0n ?_
                            refine gx_callV1 hC dL_sound_191 (tt0 h) kY_X6_tell kV_X6_tell ml_L_9 (by exact h.gs.at0) rfl (by decide) rfl rfl rfl (by first | exact Nat.le_of_ble_eq_true rfl | (simp [Value.category, isR_cat kv_isR, isR_cat aref_isR]; done)) (Nat.le_refl _) (Nat.le_refl _) ?_
                            refine gx_icmp_ge (tgt := 211) hC dL_sound_194 (by decide) (fun c_194 => ?_) (fun c_194 => ?_)
                            · first | exact absurd (by rw [h0t, e2]; exact nI_ge e1 (by omega)) c_194 | exact absurd c_194 (by rw [h0t, e2]; exact nI_ge e1 (by omega))
                            · refine gx_aload_n (i := 0) hC dL_sound_197 rfl rfl (by first | exact Or.inr ⟨_, rfl⟩ | exact Or.inl rfl) ?_
                              refine gx_iload hC dL_sound_198 rfl ?_
                              refine gx_callV1 hC dL_sound_200 (tw_n h hj h0) kY_X6_why kV_X6_why ml_L_22 (by exact h.gs.at0) rfl (by decide) rfl rfl rfl (by first | exact Nat.le_of_ble_eq_true rfl | (simp [Value.category, isR_cat kv_isR, isR_cat aref_isR]; done)) (Nat.le_refl _) (Nat.le_refl _) ?_
                              refine gx_iconst (v := nI 1) hC dL_sound_203 ic_1n ?_
                              refine gx_icmp_ne (tgt := 211) hC dL_sound_204 (by decide) (fun c_204 => ?_) (fun c_204 => ?_)
                              · first | exact absurd (by rfl) c_204 | exact absurd c_204 (by rfl)
                              · refine gx_iconst (v := nI 1) hC dL_sound_207 ic_1n ?_
                                refine gx_goto (tgt := 212) hC dL_sound_208 (by decide) ?_
                                refine gx_istore (i := 5) (L' := [_, _, _, _, _, _, _, _, _]) hC dL_sound_212 (Nat.le_of_ble_eq_true rfl) rfl (fun u h9 => by first | exact Or.inl rfl | (cases h9; done) | (right; cases h9; first | rfl | exact isR_cat aref_isR | exact isR_cat kv_isR)) ?_
                                refine gx_iload hC dL_sound_214 rfl ?_
                                refine gx_if_eq (tgt := 278) hC dL_sound_216 (by decide) (fun c_216 => ?_) (fun c_216 => ?_)
                                · first | exact absurd (by decide) c_216 | exact absurd c_216 (by decide)
                                · refine gx_iload hC dL_sound_219 rfl ?_
                                  refine gx_if_ne (tgt := 258) hC dL_sound_221 (by decide) (fun c_221 => ?_) (fun c_221 => ?_)
                                  · refine gx_iload hC dL_sound_258 rfl ?_
                                    refine gx_if_eq (tgt := 274) hC dL_sound_260 (by decide) (fun c_260 => ?_) (fun c_260 => ?_)
                                    · first | exact absurd (by exact h0) c_260 | exact absurd c_260 (by exact h0)
                                    · refine gx_aload_n (i := 0) hC dL_sound_263 rfl rfl (by first | exact Or.inr ⟨_, rfl⟩ | exact Or.inl rfl) ?_
                                      refine gx_iload hC dL_sound_264 rfl ?_
                                      refine gx_callV1 hC dL_sound_266 (te_n h hj h0) kY_X6_endurance kV_X6_endurance ml_L_25 (by exact h.gs.at0) rfl (by decide) rfl rfl rfl (by first | exact Nat.le_of_ble_eq_true rfl | (simp [Value.category, isR_cat kv_isR, isR_cat aref_isR]; done)) (Nat.le_refl _) (Nat.le_refl _) ?_
                                      refine gx_bipush (v := -3) hC dL_sound_269 bp_m3 ?_
                                      refine gx_icmp_ne (tgt := 278) hC dL_sound_271 (by decide) (fun c_271 => ?_) (fun c_271 => ?_)
                                      · first | exact absurd (by rfl) c_271 | exact absurd c_271 (by rfl)
                                      · refine gx_iconst (v := nI 1) hC dL_sound_274 ic_1n ?_
                                        refine gx_goto (tgt := 279) hC dL_sound_275 (by decide) ?_
                                        refine gx_istore (i := 5) (L' := [_, _, _, _, _, _, _, _, _]) hC dL_sound_279 (Nat.le_of_ble_eq_true rfl) rfl (fun u h9 => by first | exact Or.inl rfl | (cases h9; done) | (right; cases h9; first | rfl | exact isR_cat aref_isR | exact isR_cat kv_isR)) ?_
                                        refine gx_iinc (i := 6) (L' := [_, _, _, _, _, _, _, _, _]) hC dL_sound_281 rfl (ii_1 _) (Nat.le_of_ble_eq_true rfl) rfl (fun u h9 => by first | exact Or.inl rfl | (cases h9; done) | (right; cases h9; first | rfl | exact isR_cat aref_isR | exact isR_cat kv_isR)) ?_
                                        refine gx_goto (tgt := 19) hC dL_sound_284 (by decide) ?_
                                        have h9 := fun w7 w8 => ih (j + 1) w7 w8 (by omega) (by omega)
                                        rw [mCnt_f h0, mCnt_t h1, show sm (sF v) (j + 1) = sm (sF v) j + 0 from by rw [sm, sF, if_neg h0]] at h9
                                        exact h9 _ _
                                  · first | exact absurd (by exact h0) c_221 | exact absurd c_221 (by exact h0)
                      · first | exact absurd (by exact h0) c_110 | exact absurd c_110 (by exact h0)
                  · first | exact absurd (by exact h0) c_73 | exact absurd c_73 (by exact h0)
              · first | exact absurd (by exact h0) c_46 | exact absurd c_46 (by exact h0)
            · refine gx_aload_n (i := 0) hC dL_sound_34 rfl rfl (by first | exact Or.inr ⟨_, rfl⟩ | exact Or.inl rfl) ?_
              refine gx_iload hC dL_sound_35 rfl ?_
              refine gx_iconst (v := nI 2) hC dL_sound_37 ic_2n ?_
              refine gx_callV1 hC dL_sound_38 (ta2 h hj) kY_X6_aircraft kV_X6_aircraft ml_L_15 (by exact h.gs.at0) rfl (by decide) rfl rfl rfl (by first | exact Nat.le_of_ble_eq_true rfl | (simp [Value.category, isR_cat kv_isR, isR_cat aref_isR]; done)) (Nat.le_refl _) (Nat.le_refl _) ?_
              refine gx_istore (i := 7) (L' := [_, _, _, _, _, _, _, _, _]) hC dL_sound_41 (Nat.le_of_ble_eq_true rfl) rfl (fun u h9 => by first | exact Or.inl rfl | (cases h9; done) | (right; cases h9; first | rfl | exact isR_cat aref_isR | exact isR_cat kv_isR)) ?_
              refine gx_iload_n (i := 2) hC dL_sound_43 rfl rfl ?_
              refine gx_iload hC dL_sound_44 rfl ?_
              refine gx_if_ne (tgt := 53) hC dL_sound_46 (by decide) (fun c_46 => ?_) (fun c_46 => ?_)
              · refine gx_iconst (v := 0) hC dL_sound_53 ic_0 ?_
                refine gx_iadd hC dL_sound_54 ?_
                refine gx_istore_n (i := 2) (L' := [_, _, _, _, _, _, _, _, _]) hC dL_sound_55 rfl (Nat.le_of_ble_eq_true rfl) rfl (fun u h9 => by first | exact Or.inl rfl | (cases h9; done) | (right; cases h9; first | rfl | exact isR_cat aref_isR | exact isR_cat kv_isR)) ?_
                refine gx_iload_n (i := 3) hC dL_sound_56 rfl rfl ?_
                refine gx_iload hC dL_sound_57 rfl ?_
                refine gx_iconst (v := nI 1) hC dL_sound_59 ic_1n ?_
                refine gx_icmp_ne (tgt := 67) hC dL_sound_60 (by decide) (fun c_60 => ?_) (fun c_60 => ?_)
                · refine gx_iconst (v := 0) hC dL_sound_67 ic_0 ?_
                  refine gx_iadd hC dL_sound_68 ?_
                  refine gx_istore_n (i := 3) (L' := [_, _, _, _, _, _, _, _, _]) hC dL_sound_69 rfl (Nat.le_of_ble_eq_true rfl) rfl (fun u h9 => by first | exact Or.inl rfl | (cases h9; done) | (right; cases h9; first | rfl | exact isR_cat aref_isR | exact isR_cat kv_isR)) ?_
                  refine gx_iload_n (i := 1) hC dL_sound_70 rfl rfl ?_
                  refine gx_iload hC dL_sound_71 rfl ?_
                  refine gx_if_ne (tgt := 86) hC dL_sound_73 (by decide) (fun c_73 => ?_) (fun c_73 => ?_)
                  · refine gx_iconst (v := 0) hC dL_sound_86 ic_0 ?_
                    refine gx_iadd hC dL_sound_87 ?_
                    refine gx_istore_n (i := 1) (L' := [_, _, _, _, _, _, _, _, _]) hC dL_sound_88 rfl (Nat.le_of_ble_eq_true rfl) rfl (fun u h9 => by first | exact Or.inl rfl | (cases h9; done) | (right; cases h9; first | rfl | exact isR_cat aref_isR | exact isR_cat kv_isR)) ?_
                    refine gx_aload_n (i := 0) hC dL_sound_89 rfl rfl (by first | exact Or.inr ⟨_, rfl⟩ | exact Or.inl rfl) ?_
                    refine gx_iload hC dL_sound_90 rfl ?_
                    refine gx_iconst (v := nI 3) hC dL_sound_92 ic_3n ?_
                    refine gx_callV1 hC dL_sound_93 (ta_n h hj h0 (w := 3) (by decide) (by decide)) kY_X6_aircraft kV_X6_aircraft ml_L_15 (by exact h.gs.at0) rfl (by decide) rfl rfl rfl (by first | exact Nat.le_of_ble_eq_true rfl | (simp [Value.category, isR_cat kv_isR, isR_cat aref_isR]; done)) (Nat.le_refl _) (Nat.le_refl _) ?_
                    refine gx_istore (i := 8) (L' := [_, _, _, _, _, _, _, _, _]) hC dL_sound_96 (Nat.le_of_ble_eq_true rfl) rfl (fun u h9 => by first | exact Or.inl rfl | (cases h9; done) | (right; cases h9; first | rfl | exact isR_cat aref_isR | exact isR_cat kv_isR)) ?_
                    refine gx_aload_n (i := 0) hC dL_sound_98 rfl rfl (by first | exact Or.inr ⟨_, rfl⟩ | exact Or.inl rfl) ?_
                    refine gx_iload hC dL_sound_99 rfl ?_
                    refine gx_iconst (v := nI 1) hC dL_sound_101 ic_1n ?_
                    refine gx_callV1 hC dL_sound_102 (ta1 h hj) kY_X6_aircraft kV_X6_aircraft ml_L_15 (by exact h.gs.at0) rfl (by decide) rfl rfl rfl (by first | exact Nat.le_of_ble_eq_true rfl | (simp [Value.category, isR_cat kv_isR, isR_cat aref_isR]; done)) (Nat.le_refl _) (Nat.le_refl _) ?_
                    refine gx_if_lt (tgt := 211) hC dL_sound_105 (by decide) (fun c_105 => ?_) (fun c_105 => ?_)
                    · first | exact absurd (by rw [eu]; exact nI_pos (by omega)) c_105 | exact absurd c_105 (by rw [eu]; exact nI_pos (by omega))
                    · refine gx_iload hC dL_sound_108 rfl ?_
                      refine gx_if_ne (tgt := 162) hC dL_sound_110 (by decide) (fun c_110 => ?_) (fun c_110 => ?_)
                      · refine gx_iload hC dL_sound_162 rfl ?_
                        refine gx_bipush (v := -6) hC dL_sound_164 bp_m6 ?_
                        refine gx_icmp_ne (tgt := 211) hC dL_sound_166 (by decide) (fun c_166 => ?_) (fun c_166 => ?_)
                        · first | exact absurd (by rfl) c_166 | exact absurd c_166 (by rfl)
                        · refine gx_aload_n (i := 0) hC dL_sound_169 rfl rfl (by first | exact Or.inr ⟨_, rfl⟩ | exact Or.inl rfl) ?_
                          refine gx_iload hC dL_sound_170 rfl ?_
                          refine gx_iconst (v := nI 5) hC dL_sound_172 ic_5n ?_
                          refine gx_callV1 hC dL_sound_173 (ta_n h hj h0 (w := 5) (by decide) (by decide)) kY_X6_aircraft kV_X6_aircraft ml_L_15 (by exact h.gs.at0) rfl (by decide) rfl rfl rfl (by first | exact Nat.le_of_ble_eq_true rfl | (simp [Value.category, isR_cat kv_isR, isR_cat aref_isR]; done)) (Nat.le_refl _) (Nat.le_refl _) ?_
                          refine gx_bipush (v := -6) hC dL_sound_176 bp_m6 ?_
                          refine gx_icmp_ne (tgt := 211) hC dL_sound_178 (by decide) (fun c_178 => ?_) (fun c_178 => ?_)
                          · first | exact absurd (by rfl) c_178 | exact absurd c_178 (by rfl)
                          · refine gx_aload_n (i := 0) hC dL_sound_181 rfl rfl (by first | exact Or.inr ⟨_, rfl⟩ | exact Or.inl rfl) ?_
                            refine gx_iload hC dL_sound_182 rfl ?_
                            refine gx_bipush (v := nI 7) hC dL_sound_184 bp_7n ?_
                            refine gx_callV1 hC dL_sound_186 (ta7n h hj h0) kY_X6_aircraft kV_X6_aircraft ml_L_15 (by exact h.gs.at0) rfl (by decide) rfl rfl rfl (by first | exact Nat.le_of_ble_eq_true rfl | (simp [Value.category, isR_cat kv_isR, isR_cat aref_isR]; done)) (Nat.le_refl _) (Nat.le_refl _) ?_
                            refine gx_aload_n (i := 0) hC dL_sound_189 rfl rfl (by first | exact Or.inr ⟨_, rfl⟩ | exact Or.inl rfl) ?_
                            refine gx_iconst (v := nI 0) hC dL_sound_190 ic_0n ?_
                            refine gx_callV1 hC dL_sound_191 (tt0 h) kY_X6_tell kV_X6_tell ml_L_9 (by exact h.gs.at0) rfl (by decide) rfl rfl rfl (by first | exact Nat.le_of_ble_eq_true rfl | (simp [Value.category, isR_cat kv_isR, isR_cat aref_isR]; done)) (Nat.le_refl _) (Nat.le_refl _) ?_
                            refine gx_icmp_ge (tgt := 211) hC dL_sound_194 (by decide) (fun c_194 => ?_) (fun c_194 => ?_)
                            · first | exact absurd (by rw [h0t, e2]; exact nI_ge e1 (by omega)) c_194 | exact absurd c_194 (by rw [h0t, e2]; exact nI_ge e1 (by omega))
                            · refine gx_aload_n (i := 0) hC dL_sound_197 rfl rfl (by first | exact Or.inr ⟨_, rfl⟩ | exact Or.inl rfl) ?_
                              refine gx_iload hC dL_sound_198 rfl ?_
                              refine gx_callV1 hC dL_sound_200 (tw_n h hj h0) kY_X6_why kV_X6_why ml_L_22 (by exact h.gs.at0) rfl (by decide) rfl rfl rfl (by first | exact Nat.le_of_ble_eq_true rfl | (simp [Value.category, isR_cat kv_isR, isR_cat aref_isR]; done)) (Nat.le_refl _) (Nat.le_refl _) ?_
                              refine gx_iconst (v := nI 1) hC dL_sound_203 ic_1n ?_
                              refine gx_icmp_ne (tgt := 211) hC dL_sound_204 (by decide) (fun c_204 => ?_) (fun c_204 => ?_)
                              · first | exact absurd (by rfl) c_204 | exact absurd c_204 (by rfl)
                              · refine gx_iconst (v := nI 1) hC dL_sound_207 ic_1n ?_
                                refine gx_goto (tgt := 212) hC dL_sound_208 (by decide) ?_
                                refine gx_istore (i := 5) (L' := [_, _, _, _, _, _, _, _, _]) hC dL_sound_212 (Nat.le_of_ble_eq_true rfl) rfl (fun u h9 => by first | exact Or.inl rfl | (cases h9; done) | (right; cases h9; first | rfl | exact isR_cat aref_isR | exact isR_cat kv_isR)) ?_
                                refine gx_iload hC dL_sound_214 rfl ?_
                                refine gx_if_eq (tgt := 278) hC dL_sound_216 (by decide) (fun c_216 => ?_) (fun c_216 => ?_)
                                · first | exact absurd (by decide) c_216 | exact absurd c_216 (by decide)
                                · refine gx_iload hC dL_sound_219 rfl ?_
                                  refine gx_if_ne (tgt := 258) hC dL_sound_221 (by decide) (fun c_221 => ?_) (fun c_221 => ?_)
                                  · refine gx_iload hC dL_sound_258 rfl ?_
                                    refine gx_if_eq (tgt := 274) hC dL_sound_260 (by decide) (fun c_260 => ?_) (fun c_260 => ?_)
                                    · first | exact absurd (by exact h0) c_260 | exact absurd c_260 (by exact h0)
                                    · refine gx_aload_n (i := 0) hC dL_sound_263 rfl rfl (by first | exact Or.inr ⟨_, rfl⟩ | exact Or.inl rfl) ?_
                                      refine gx_iload hC dL_sound_264 rfl ?_
                                      refine gx_callV1 hC dL_sound_266 (te_n h hj h0) kY_X6_endurance kV_X6_endurance ml_L_25 (by exact h.gs.at0) rfl (by decide) rfl rfl rfl (by first | exact Nat.le_of_ble_eq_true rfl | (simp [Value.category, isR_cat kv_isR, isR_cat aref_isR]; done)) (Nat.le_refl _) (Nat.le_refl _) ?_
                                      refine gx_bipush (v := -3) hC dL_sound_269 bp_m3 ?_
                                      refine gx_icmp_ne (tgt := 278) hC dL_sound_271 (by decide) (fun c_271 => ?_) (fun c_271 => ?_)
                                      · first | exact absurd (by rfl) c_271 | exact absurd c_271 (by rfl)
                                      · refine gx_iconst (v := nI 1) hC dL_sound_274 ic_1n ?_
                                        refine gx_goto (tgt := 279) hC dL_sound_275 (by decide) ?_
                                        refine gx_istore (i := 5) (L' := [_, _, _, _, _, _, _, _, _]) hC dL_sound_279 (Nat.le_of_ble_eq_true rfl) rfl (fun u h9 => by first | exact Or.inl rfl | (cases h9; done) | (right; cases h9; first | rfl | exact isR_cat aref_isR | exact isR_cat kv_isR)) ?_
                                        refine gx_iinc (i := 6) (L' := [_, _, _, _, _, _, _, _, _]) hC dL_sound_281 rfl (ii_1 _) (Nat.le_of_ble_eq_true rfl) rfl (fun u h9 => by first | exact Or.inl rfl | (cases h9; done) | (right; cases h9; first | rfl | exact isR_cat aref_isR | exact isR_cat kv_isR)) ?_
                                        refine gx_goto (tgt := 19) hC dL_sound_284 (by decide) ?_
                                        have h9 := fun w7 w8 => ih (j + 1) w7 w8 (by omega) (by omega)
                                        rw [mCnt_f h0, mCnt_f h1, show sm (sF v) (j + 1) = sm (sF v) j + 0 from by rw [sm, sF, if_neg h0]] at h9
                                        exact h9 _ _
                                  · first | exact absurd (by exact h0) c_221 | exact absurd c_221 (by exact h0)
                      · first | exact absurd (by exact h0) c_110 | exact absurd c_110 (by exact h0)
                  · first | exact absurd (by exact h0) c_73 | exact absurd c_73 (by exact h0)
                · first | exact absurd (by exact h1) c_60 | exact absurd c_60 (by exact h1)
              · first | exact absurd (by exact h0) c_46 | exact absurd c_46 (by exact h0)
  exact loop_19 (c + 1) 0 _ _ (by omega) (by omega)
