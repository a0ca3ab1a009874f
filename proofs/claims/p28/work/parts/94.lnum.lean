/-! the law: a number, a strip appended -/
set_option maxHeartbeats 4000000 in
set_option maxRecDepth 20000 in
theorem u_number (l : Launch) (z : hZt) {M : hMem} {R : hRef} {ln n : Nat} (gG : GS 215 R) (hln : M 213 1 = nI ln) (hl : ln + 3 ≤ 80) (hn : n ≤ 999) : hCt l z m_L_number [.ref (z.1 + 0), .int (nI n)] 215 M R 215 none (apL M ln (dg n)) R := by
  refine hs_start [some (.ref (z.1 + 0)), some (.int (nI n)), none, none] (by decide +kernel) rfl (by intro u hu; simp at hu; rcases hu with rfl | rfl <;> first | rfl | exact isR_cat kv_isR | exact isR_cat aref_isR) (Nat.le_of_ble_eq_true rfl) (Nat.le_refl _) (fun X hlX hN hC hQ => ?_)
  dsimp only at hC hQ
  have st20 : ∀ (N : hMem) (p kk u : Nat), N 213 1 = nI p → p < 80 → 1 ≤ kk → kk ≤ 1000 → hG z 215 X 215 (aM N p (nI (48 + n / kk % 10))) R 20 [some (.ref (z.1 + 0)), some (.int (nI n)), some (.int (nI u)), some (.int (nI (kk / 10)))] [] → hG z 215 X 215 N R 20 [some (.ref (z.1 + 0)), some (.int (nI n)), some (.int (nI u)), some (.int (nI kk))] [] := by
    intro N p kk u hp hp8 hk1 hk2 kk9
    have d1 : n / kk ≤ n := Nat.div_le_self _ _
    refine gx_iload_n (i := 3) hC dL_number_20 rfl rfl ?_
    refine gx_if_le (tgt := 46) hC dL_number_21 (by decide) (fun c_21 => ?_) (fun c_21 => ?_)
    · first | exact absurd (by exact nI_nle (by omega) (by omega)) c_21 | exact absurd c_21 (by exact nI_nle (by omega) (by omega))
    · refine gx_aload_n (i := 0) hC dL_number_24 rfl rfl (by first | exact Or.inr ⟨_, rfl⟩ | exact Or.inl rfl) ?_
      refine gx_bipush (v := nI 48) hC dL_number_25 bp_48n ?_
      refine gx_iload_n (i := 1) hC dL_number_27 rfl rfl ?_
      refine gx_iload_n (i := 3) hC dL_number_28 rfl rfl ?_
      refine gx_idiv hC dL_number_29 (nI_ne0 (by omega) (by omega)) ?_
      rw [pk_div (by omega) (by omega) (by omega)]
      refine gx_bipush (v := nI 10) hC dL_number_30 bp_10n ?_
      refine gx_irem hC dL_number_32 (by decide) ?_
      rw [pk_rem (by omega) (by omega) (by omega)]
      refine gx_iadd hC dL_number_33 ?_
      rw [nI_add]
      refine gx_callV1 hC dL_number_34 (c_X6_append _ _ gG hp hp8 (by omega) (by omega)) kY_X6_append kV_X6_append ml_L_46 (by exact gG.at0) rfl (by decide) rfl rfl rfl (by first | exact Nat.le_of_ble_eq_true rfl | (simp [Value.category, isR_cat kv_isR, isR_cat aref_isR]; done)) (Nat.le_refl _) (Nat.le_refl _) ?_
      refine gx_pop hC dL_number_37 (by first | rfl | exact isR_cat kv_isR | exact isR_cat aref_isR) ?_
      refine gx_iload_n (i := 3) hC dL_number_38 rfl rfl ?_
      refine gx_bipush (v := nI 10) hC dL_number_39 bp_10n ?_
      refine gx_idiv hC dL_number_41 (by decide) ?_
      rw [pk_div (by omega) (by omega) (by omega)]
      refine gx_istore_n (i := 3) (L' := [_, _, _, _]) hC dL_number_42 rfl (Nat.le_of_ble_eq_true rfl) rfl (fun u h9 => by first | exact Or.inl rfl | (cases h9; done) | (right; cases h9; first | rfl | exact isR_cat aref_isR | exact isR_cat kv_isR)) ?_
      refine gx_goto (tgt := 20) hC dL_number_43 (by decide) ?_
      exact kk9
  have en20 : ∀ (N : hMem) (u : Nat), N = apL M ln (dg n) → hG z 215 X 215 N R 20 [some (.ref (z.1 + 0)), some (.int (nI n)), some (.int (nI u)), some (.int (nI 0))] [] := by
    intro N u e9
    refine gx_iload_n (i := 3) hC dL_number_20 rfl rfl ?_
    refine gx_if_le (tgt := 46) hC dL_number_21 (by decide) (fun c_21 => ?_) (fun c_21 => ?_)
    · exact gx_vret hC hQ dL_number_46 (e9) rfl
    · first | exact absurd (by decide) c_21 | exact absurd c_21 (by decide)
  have st2 : ∀ (u : Nat), 1 ≤ u → u ≤ 100 → 9 < n / u → hG z 215 X 215 M R 2 [some (.ref (z.1 + 0)), some (.int (nI n)), some (.int (nI (u * 10))), none] [] → hG z 215 X 215 M R 2 [some (.ref (z.1 + 0)), some (.int (nI n)), some (.int (nI u)), none] [] := by
    intro u hu1 hu2 h9 kk9
    have d1 : n / u ≤ n := Nat.div_le_self _ _
    refine gx_iload_n (i := 1) hC dL_number_2 rfl rfl ?_
    refine gx_iload_n (i := 2) hC dL_number_3 rfl rfl ?_
    refine gx_idiv hC dL_number_4 (nI_ne0 (by omega) (by omega)) ?_
    rw [pk_div (by omega) (by omega) (by omega)]
    refine gx_bipush (v := nI 9) hC dL_number_5 bp_9n ?_
    refine gx_icmp_le (tgt := 18) hC dL_number_7 (by decide) (fun c_7 => ?_) (fun c_7 => ?_)
    · first | exact absurd (by exact nI_ge h9 (by omega)) c_7 | exact absurd c_7 (by exact nI_ge h9 (by omega))
    · refine gx_iload_n (i := 2) hC dL_number_10 rfl rfl ?_
      refine gx_bipush (v := nI 10) hC dL_number_11 bp_10n ?_
      refine gx_imul hC dL_number_13 ?_
      rw [pk_mul]
      refine gx_istore_n (i := 2) (L' := [_, _, _, _]) hC dL_number_14 rfl (Nat.le_of_ble_eq_true rfl) rfl (fun u h9 => by first | exact Or.inl rfl | (cases h9; done) | (right; cases h9; first | rfl | exact isR_cat aref_isR | exact isR_cat kv_isR)) ?_
      refine gx_goto (tgt := 2) hC dL_number_15 (by decide) ?_
      exact kk9
  have en2 : ∀ (u : Nat), 1 ≤ u → u ≤ 100 → n / u ≤ 9 → hG z 215 X 215 M R 20 [some (.ref (z.1 + 0)), some (.int (nI n)), some (.int (nI u)), some (.int (nI u))] [] → hG z 215 X 215 M R 2 [some (.ref (z.1 + 0)), some (.int (nI n)), some (.int (nI u)), none] [] := by
    intro u hu1 hu2 h9 kk9
    have d1 : n / u ≤ n := Nat.div_le_self _ _
    refine gx_iload_n (i := 1) hC dL_number_2 rfl rfl ?_
    refine gx_iload_n (i := 2) hC dL_number_3 rfl rfl ?_
    refine gx_idiv hC dL_number_4 (nI_ne0 (by omega) (by omega)) ?_
    rw [pk_div (by omega) (by omega) (by omega)]
    refine gx_bipush (v := nI 9) hC dL_number_5 bp_9n ?_
    refine gx_icmp_le (tgt := 18) hC dL_number_7 (by decide) (fun c_7 => ?_) (fun c_7 => ?_)
    · refine gx_iload_n (i := 2) hC dL_number_18 rfl rfl ?_
      refine gx_istore_n (i := 3) (L' := [_, _, _, _]) hC dL_number_19 rfl (Nat.le_of_ble_eq_true rfl) rfl (fun u h9 => by first | exact Or.inl rfl | (cases h9; done) | (right; cases h9; first | rfl | exact isR_cat aref_isR | exact isR_cat kv_isR)) ?_
      exact kk9
    · first | exact absurd (by exact nI_le h9 (by omega)) c_7 | exact absurd c_7 (by exact nI_le h9 (by omega))
  refine gx_iconst (v := nI 1) hC dL_number_0 ic_1n ?_
  refine gx_istore_n (i := 2) (L' := [_, _, _, _]) hC dL_number_1 rfl (Nat.le_of_ble_eq_true rfl) rfl (fun u h9 => by first | exact Or.inl rfl | (cases h9; done) | (right; cases h9; first | rfl | exact isR_cat aref_isR | exact isR_cat kv_isR)) ?_
  by_cases h1 : n < 10
  · refine en2 1 (by decide) (by decide) (by omega) (st20 M ln 1 1 hln (by omega) (by decide) (by decide) (en20 _ _ ?_))
    rw [dg_1 h1, show n / 1 % 10 = n by omega]
    rfl
  · by_cases h2 : n < 100
    · refine st2 1 (by decide) (by decide) (by omega) (en2 10 (by decide) (by decide) (by omega) (st20 M ln 10 10 hln (by omega) (by decide) (by decide) (st20 _ (ln + 1) 1 10 up2_same (by omega) (by decide) (by decide) (en20 _ _ ?_))))
      rw [dg_2 (by omega) h2, show n / 1 % 10 = n % 10 by omega, show n / 10 % 10 = n / 10 by omega]
      rfl
    · refine st2 1 (by decide) (by decide) (by omega) (st2 10 (by decide) (by decide) (by omega) (en2 100 (by decide) (by decide) (by omega) (st20 M ln 100 100 hln (by omega) (by decide) (by decide) (st20 _ (ln + 1) 10 100 up2_same (by omega) (by decide) (by decide) (st20 _ (ln + 1 + 1) 1 100 up2_same (by omega) (by decide) (by decide) (en20 _ _ ?_))))))
      rw [dg_3 (by omega), show n / 1 % 10 = n % 10 by omega, show n / 100 % 10 = n / 100 by omega]
      rfl
set_option maxHeartbeats 4000000 in
set_option maxRecDepth 20000 in
theorem u_strip (l : Launch) (z : hZt) {M : hMem} {R : hRef} {ln k fu le : Nat} (gG : GS 215 R) (hln : M 213 1 = nI ln) (hl : ln + 9 ≤ 80) (hk : k < 3) (hf : fu ≤ 999) (hle : le ≤ 999) : hCt l z m_L_strip [.ref (z.1 + 0), .int (nI k), .int (nI fu), .int (nI le)] 215 M R 215 none (apL M ln (sL k fu le)) R := by
  refine hs_start [some (.ref (z.1 + 0)), some (.int (nI k)), some (.int (nI fu)), some (.int (nI le))] (by decide +kernel) rfl (by intro u hu; simp at hu; rcases hu with rfl | rfl | rfl | rfl <;> first | rfl | exact isR_cat kv_isR | exact isR_cat aref_isR) (Nat.le_of_ble_eq_true rfl) (Nat.le_refl _) (fun X hlX hN hC hQ => ?_)
  dsimp only at hC hQ
  have d1 := dg_l (n := fu)
  rcases (show k = 0 ∨ k = 1 ∨ k = 2 by omega) with rfl | rfl | rfl
  · refine gx_aload_n (i := 0) hC dL_strip_0 rfl rfl (by first | exact Or.inr ⟨_, rfl⟩ | exact Or.inl rfl) ?_
    refine gx_bipush (v := nI 43) hC dL_strip_1 bp_43n ?_
    refine gx_callV1 hC dL_strip_3 (c_X6_append _ _ gG hln (by omega) (by decide) (by decide)) kY_X6_append kV_X6_append ml_L_46 (by exact gG.at0) rfl (by decide) rfl rfl rfl (by first | exact Nat.le_of_ble_eq_true rfl | (simp [Value.category, isR_cat kv_isR, isR_cat aref_isR]; done)) (Nat.le_refl _) (Nat.le_refl _) ?_
    refine gx_pop hC dL_strip_6 (by first | rfl | exact isR_cat kv_isR | exact isR_cat aref_isR) ?_
    refine gx_aload_n (i := 0) hC dL_strip_7 rfl rfl (by first | exact Or.inr ⟨_, rfl⟩ | exact Or.inl rfl) ?_
    refine gx_iload_n (i := 1) hC dL_strip_8 rfl rfl ?_
    refine gx_if_ne (tgt := 17) hC dL_strip_9 (by decide) (fun c_9 => ?_) (fun c_9 => ?_)
    · first | exact absurd (by rfl) c_9 | exact absurd c_9 (by rfl)
    · refine gx_bipush (v := nI 108) hC dL_strip_12 bp_108n ?_
      refine gx_goto (tgt := 29) hC dL_strip_14 (by decide) ?_
      refine gx_callV1 hC dL_strip_29 (c_X6_append _ _ gG (ln := ln + 1) up2_same (by omega) (by decide) (by decide)) kY_X6_append kV_X6_append ml_L_46 (by exact gG.at0) rfl (by decide) rfl rfl rfl (by first | exact Nat.le_of_ble_eq_true rfl | (simp [Value.category, isR_cat kv_isR, isR_cat aref_isR]; done)) (Nat.le_refl _) (Nat.le_refl _) ?_
      refine gx_pop hC dL_strip_32 (by first | rfl | exact isR_cat kv_isR | exact isR_cat aref_isR) ?_
      refine gx_aload_n (i := 0) hC dL_strip_33 rfl rfl (by first | exact Or.inr ⟨_, rfl⟩ | exact Or.inl rfl) ?_
      refine gx_iload_n (i := 2) hC dL_strip_34 rfl rfl ?_
      refine gx_callS0 hC dL_strip_35 (u_number _ _ gG (ln := ln + 1 + 1) up2_same (by omega) hf) kY_L_number kS_L_number ml_L_49 (by decide) rfl rfl rfl (by first | exact Nat.le_of_ble_eq_true rfl | (simp [Value.category, isR_cat kv_isR, isR_cat aref_isR]; done)) (Nat.le_refl _) (Nat.le_refl _) ?_
      refine gx_aload_n (i := 0) hC dL_strip_38 rfl rfl (by first | exact Or.inr ⟨_, rfl⟩ | exact Or.inl rfl) ?_
      refine gx_bipush (v := nI 64) hC dL_strip_39 bp_64n ?_
      refine gx_callV1 hC dL_strip_41 (c_X6_append _ _ gG (ln := ln + 1 + 1 + (dg fu).length) (apL_l _ _ _ up2_same) (by omega) (by decide) (by decide)) kY_X6_append kV_X6_append ml_L_46 (by exact gG.at0) rfl (by decide) rfl rfl rfl (by first | exact Nat.le_of_ble_eq_true rfl | (simp [Value.category, isR_cat kv_isR, isR_cat aref_isR]; done)) (Nat.le_refl _) (Nat.le_refl _) ?_
      refine gx_pop hC dL_strip_44 (by first | rfl | exact isR_cat kv_isR | exact isR_cat aref_isR) ?_
      refine gx_aload_n (i := 0) hC dL_strip_45 rfl rfl (by first | exact Or.inr ⟨_, rfl⟩ | exact Or.inl rfl) ?_
      refine gx_iload_n (i := 3) hC dL_strip_46 rfl rfl ?_
      refine gx_callS0 hC dL_strip_47 (u_number _ _ gG (ln := ln + 1 + 1 + (dg fu).length + 1) up2_same (by omega) hle) kY_L_number kS_L_number ml_L_49 (by decide) rfl rfl rfl (by first | exact Nat.le_of_ble_eq_true rfl | (simp [Value.category, isR_cat kv_isR, isR_cat aref_isR]; done)) (Nat.le_refl _) (Nat.le_refl _) ?_
      exact gx_vret hC hQ dL_strip_50 (by show _ = apL M ln (43 :: kl 0 :: (dg fu ++ 64 :: dg le)); rw [apL, apL, apL_app, apL]; rfl) rfl
  · refine gx_aload_n (i := 0) hC dL_strip_0 rfl rfl (by first | exact Or.inr ⟨_, rfl⟩ | exact Or.inl rfl) ?_
    refine gx_bipush (v := nI 43) hC dL_strip_1 bp_43n ?_
    refine gx_callV1 hC dL_strip_3 (c_X6_append _ _ gG hln (by omega) (by decide) (by decide)) kY_X6_append kV_X6_append ml_L_46 (by exact gG.at0) rfl (by decide) rfl rfl rfl (by first | exact Nat.le_of_ble_eq_true rfl | (simp [Value.category, isR_cat kv_isR, isR_cat aref_isR]; done)) (Nat.le_refl _) (Nat.le_refl _) ?_
    refine gx_pop hC dL_strip_6 (by first | rfl | exact isR_cat kv_isR | exact isR_cat aref_isR) ?_
    refine gx_aload_n (i := 0) hC dL_strip_7 rfl rfl (by first | exact Or.inr ⟨_, rfl⟩ | exact Or.inl rfl) ?_
    refine gx_iload_n (i := 1) hC dL_strip_8 rfl rfl ?_
    refine gx_if_ne (tgt := 17) hC dL_strip_9 (by decide) (fun c_9 => ?_) (fun c_9 => ?_)
    · refine gx_iload_n (i := 1) hC dL_strip_17 rfl rfl ?_
      refine gx_iconst (v := nI 1) hC dL_strip_18 ic_1n ?_
      refine gx_icmp_ne (tgt := 27) hC dL_strip_19 (by decide) (fun c_19 => ?_) (fun c_19 => ?_)
      · first | exact absurd (by rfl) c_19 | exact absurd c_19 (by rfl)
      · refine gx_bipush (v := nI 109) hC dL_strip_22 bp_109n ?_
        refine gx_goto (tgt := 29) hC dL_strip_24 (by decide) ?_
        refine gx_callV1 hC dL_strip_29 (c_X6_append _ _ gG (ln := ln + 1) up2_same (by omega) (by decide) (by decide)) kY_X6_append kV_X6_append ml_L_46 (by exact gG.at0) rfl (by decide) rfl rfl rfl (by first | exact Nat.le_of_ble_eq_true rfl | (simp [Value.category, isR_cat kv_isR, isR_cat aref_isR]; done)) (Nat.le_refl _) (Nat.le_refl _) ?_
        refine gx_pop hC dL_strip_32 (by first | rfl | exact isR_cat kv_isR | exact isR_cat aref_isR) ?_
        refine gx_aload_n (i := 0) hC dL_strip_33 rfl rfl (by first | exact Or.inr ⟨_, rfl⟩ | exact Or.inl rfl) ?_
        refine gx_iload_n (i := 2) hC dL_strip_34 rfl rfl ?_
        refine gx_callS0 hC dL_strip_35 (u_number _ _ gG (ln := ln + 1 + 1) up2_same (by omega) hf) kY_L_number kS_L_number ml_L_49 (by decide) rfl rfl rfl (by first | exact Nat.le_of_ble_eq_true rfl | (simp [Value.category, isR_cat kv_isR, isR_cat aref_isR]; done)) (Nat.le_refl _) (Nat.le_refl _) ?_
        refine gx_aload_n (i := 0) hC dL_strip_38 rfl rfl (by first | exact Or.inr ⟨_, rfl⟩ | exact Or.inl rfl) ?_
        refine gx_bipush (v := nI 64) hC dL_strip_39 bp_64n ?_
        refine gx_callV1 hC dL_strip_41 (c_X6_append _ _ gG (ln := ln + 1 + 1 + (dg fu).length) (apL_l _ _ _ up2_same) (by omega) (by decide) (by decide)) kY_X6_append kV_X6_append ml_L_46 (by exact gG.at0) rfl (by decide) rfl rfl rfl (by first | exact Nat.le_of_ble_eq_true rfl | (simp [Value.category, isR_cat kv_isR, isR_cat aref_isR]; done)) (Nat.le_refl _) (Nat.le_refl _) ?_
        refine gx_pop hC dL_strip_44 (by first | rfl | exact isR_cat kv_isR | exact isR_cat aref_isR) ?_
        refine gx_aload_n (i := 0) hC dL_strip_45 rfl rfl (by first | exact Or.inr ⟨_, rfl⟩ | exact Or.inl rfl) ?_
        refine gx_iload_n (i := 3) hC dL_strip_46 rfl rfl ?_
        refine gx_callS0 hC dL_strip_47 (u_number _ _ gG (ln := ln + 1 + 1 + (dg fu).length + 1) up2_same (by omega) hle) kY_L_number kS_L_number ml_L_49 (by decide) rfl rfl rfl (by first | exact Nat.le_of_ble_eq_true rfl | (simp [Value.category, isR_cat kv_isR, isR_cat aref_isR]; done)) (Nat.le_refl _) (Nat.le_refl _) ?_
        exact gx_vret hC hQ dL_strip_50 (by show _ = apL M ln (43 :: kl 1 :: (dg fu ++ 64 :: dg le)); rw [apL, apL, apL_app, apL]; rfl) rfl
    · first | exact absurd (by decide) c_9 | exact absurd c_9 (by decide)
  · refine gx_aload_n (i := 0) hC dL_strip_0 rfl rfl (by first | exact Or.inr ⟨_, rfl⟩ | exact Or.inl rfl) ?_
    refine gx_bipush (v := nI 43) hC dL_strip_1 bp_43n ?_
    refine gx_callV1 hC dL_strip_3 (c_X6_append _ _ gG hln (by omega) (by decide) (by decide)) kY_X6_append kV_X6_append ml_L_46 (by exact gG.at0) rfl (by decide) rfl rfl rfl (by first | exact Nat.le_of_ble_eq_true rfl | (simp [Value.category, isR_cat kv_isR, isR_cat aref_isR]; done)) (Nat.le_refl _) (Nat.le_refl _) ?_
    refine gx_pop hC dL_strip_6 (by first | rfl | exact isR_cat kv_isR | exact isR_cat aref_isR) ?_
    refine gx_aload_n (i := 0) hC dL_strip_7 rfl rfl (by first | exact Or.inr ⟨_, rfl⟩ | exact Or.inl rfl) ?_
    refine gx_iload_n (i := 1) hC dL_strip_8 rfl rfl ?_
    refine gx_if_ne (tgt := 17) hC dL_strip_9 (by decide) (fun c_9 => ?_) (fun c_9 => ?_)
    · refine gx_iload_n (i := 1) hC dL_strip_17 rfl rfl ?_
      refine gx_iconst (v := nI 1) hC dL_strip_18 ic_1n ?_
      refine gx_icmp_ne (tgt := 27) hC dL_strip_19 (by decide) (fun c_19 => ?_) (fun c_19 => ?_)
      · refine gx_bipush (v := nI 104) hC dL_strip_27 bp_104n ?_
        refine gx_callV1 hC dL_strip_29 (c_X6_append _ _ gG (ln := ln + 1) up2_same (by omega) (by decide) (by decide)) kY_X6_append kV_X6_append ml_L_46 (by exact gG.at0) rfl (by decide) rfl rfl rfl (by first | exact Nat.le_of_ble_eq_true rfl | (simp [Value.category, isR_cat kv_isR, isR_cat aref_isR]; done)) (Nat.le_refl _) (Nat.le_refl _) ?_
        refine gx_pop hC dL_strip_32 (by first | rfl | exact isR_cat kv_isR | exact isR_cat aref_isR) ?_
        refine gx_aload_n (i := 0) hC dL_strip_33 rfl rfl (by first | exact Or.inr ⟨_, rfl⟩ | exact Or.inl rfl) ?_
        refine gx_iload_n (i := 2) hC dL_strip_34 rfl rfl ?_
        refine gx_callS0 hC dL_strip_35 (u_number _ _ gG (ln := ln + 1 + 1) up2_same (by omega) hf) kY_L_number kS_L_number ml_L_49 (by decide) rfl rfl rfl (by first | exact Nat.le_of_ble_eq_true rfl | (simp [Value.category, isR_cat kv_isR, isR_cat aref_isR]; done)) (Nat.le_refl _) (Nat.le_refl _) ?_
        refine gx_aload_n (i := 0) hC dL_strip_38 rfl rfl (by first | exact Or.inr ⟨_, rfl⟩ | exact Or.inl rfl) ?_
        refine gx_bipush (v := nI 64) hC dL_strip_39 bp_64n ?_
        refine gx_callV1 hC dL_strip_41 (c_X6_append _ _ gG (ln := ln + 1 + 1 + (dg fu).length) (apL_l _ _ _ up2_same) (by omega) (by decide) (by decide)) kY_X6_append kV_X6_append ml_L_46 (by exact gG.at0) rfl (by decide) rfl rfl rfl (by first | exact Nat.le_of_ble_eq_true rfl | (simp [Value.category, isR_cat kv_isR, isR_cat aref_isR]; done)) (Nat.le_refl _) (Nat.le_refl _) ?_
        refine gx_pop hC dL_strip_44 (by first | rfl | exact isR_cat kv_isR | exact isR_cat aref_isR) ?_
        refine gx_aload_n (i := 0) hC dL_strip_45 rfl rfl (by first | exact Or.inr ⟨_, rfl⟩ | exact Or.inl rfl) ?_
        refine gx_iload_n (i := 3) hC dL_strip_46 rfl rfl ?_
        refine gx_callS0 hC dL_strip_47 (u_number _ _ gG (ln := ln + 1 + 1 + (dg fu).length + 1) up2_same (by omega) hle) kY_L_number kS_L_number ml_L_49 (by decide) rfl rfl rfl (by first | exact Nat.le_of_ble_eq_true rfl | (simp [Value.category, isR_cat kv_isR, isR_cat aref_isR]; done)) (Nat.le_refl _) (Nat.le_refl _) ?_
        exact gx_vret hC hQ dL_strip_50 (by show _ = apL M ln (43 :: kl 2 :: (dg fu ++ 64 :: dg le)); rw [apL, apL, apL_app, apL]; rfl) rfl
      · first | exact absurd (by decide) c_19 | exact absurd c_19 (by decide)
    · first | exact absurd (by decide) c_9 | exact absurd c_9 (by decide)
