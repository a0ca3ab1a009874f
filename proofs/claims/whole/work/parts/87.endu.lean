/-! endurance of the model: the burning is asked for of those that hold alone -/
set_option maxHeartbeats 4000000 in
set_option maxRecDepth 20000 in
theorem c2_X7_endurance (l : Launch) (z : hZt) {n : Nat} {M : hMem} {R : hRef} (gM : gMd n R) {v : Nat → Int32} {lv c : Nat} (hW : MW v lv c) (hR3 : CR M) {j : Nat} (hj : j < c) (hne : v (14 + 7 * j + 2) = 0 → mBurn v j (v (14 + 7 * j + 3)) ≠ 0) : hCt l z m_X7_endurance [.ref (z.1 + 215), .int (nI j)] n (putRow M 216 v) R n (some (.int (mEu v j))) (putRow M 216 v) R := by
  refine hs_start [some (.ref (z.1 + 215)), some (.int (nI j)), none, none] (by decide +kernel) rfl (by intro u hu; simp at hu; rcases hu with rfl | rfl <;> first | rfl | exact isR_cat kv_isR | exact isR_cat aref_isR) (Nat.le_of_ble_eq_true rfl) (Nat.le_refl _) (fun X hlX hN hC hQ => ?_)
  dsimp only at hC hQ
  have hc20 := hW.c20
  have hl16 := hW.l16
  refine gx_aload_n (i := 0) hC dX7_endurance_0 rfl rfl (by first | exact Or.inr ⟨_, rfl⟩ | exact Or.inl rfl | exact kv_isR | exact aref_isR) ?_
  refine gx_iload_n (i := 1) hC dX7_endurance_1 rfl rfl ?_
  refine gx_callV1 hC dX7_endurance_2 (c_X7_isCraft _ _ gM _) kY_X7_isCraft kV_X7_isCraft ml_X7_85 (by first | exact gM.at215 | exact gM.at216 | exact gM.at217 | exact gM.at218 | exact gM.at219 | exact gM.at220 | exact gM.at221 | exact gM.at222 | exact gM.at223 | exact gM.at224 | exact gM.at225) rfl (by decide) rfl rfl rfl (by first | exact Nat.le_of_ble_eq_true rfl | (simp [Value.category, isR_cat kv_isR, isR_cat aref_isR]; done)) (Nat.le_refl _) (Nat.le_refl _) ?_
  refine gx_ifb_ne (tgt := 10) hC dX7_endurance_5 (by decide) (fun c_5 => ?_) (fun c_5 => ?_)
  · refine gx_aload_n (i := 0) hC dX7_endurance_10 rfl rfl (by first | exact Or.inr ⟨_, rfl⟩ | exact Or.inl rfl | exact kv_isR | exact aref_isR) ?_
    refine gx_getR hC dX7_endurance_11 fl_X7_7 (by first | exact gM.at215 | exact gM.at216 | exact gM.at217 | exact gM.at218 | exact gM.at219 | exact gM.at220 | exact gM.at221 | exact gM.at222 | exact gM.at223 | exact gM.at224 | exact gM.at225) rfl (gM.r216) (by decide) ?_
    refine gx_iload_n (i := 1) hC dX7_endurance_14 rfl rfl ?_
    refine gx_callS1 hC dX7_endurance_15 (c_X7_at _ _ _) kY_X7_at kS_X7_at ml_X7_52 (by decide) rfl rfl rfl (by first | exact Nat.le_of_ble_eq_true rfl | (simp [Value.category, isR_cat kv_isR, isR_cat aref_isR]; done)) (Nat.le_refl _) (Nat.le_refl _) ?_
    refine gx_iconst (v := nI 2) hC dX7_endurance_18 ic_2n ?_
    refine gx_iadd hC dX7_endurance_19 ?_
    rw [nI_add]
    refine gx_iald hC dX7_endurance_20 (by first | exact gM.at215 | exact gM.at216 | exact gM.at217 | exact gM.at218 | exact gM.at219 | exact gM.at220 | exact gM.at221 | exact gM.at222 | exact gM.at223 | exact gM.at224 | exact gM.at225) (by exact vpn (by omega) (by decide)) (pRn (by omega)) ?_
    refine gx_if_eq (tgt := 27) hC dX7_endurance_21 (by decide) (fun c_21 => ?_) (fun c_21 => ?_)
    · refine gx_aload_n (i := 0) hC dX7_endurance_27 rfl rfl (by first | exact Or.inr ⟨_, rfl⟩ | exact Or.inl rfl | exact kv_isR | exact aref_isR) ?_
      refine gx_getR hC dX7_endurance_28 fl_X7_7 (by first | exact gM.at215 | exact gM.at216 | exact gM.at217 | exact gM.at218 | exact gM.at219 | exact gM.at220 | exact gM.at221 | exact gM.at222 | exact gM.at223 | exact gM.at224 | exact gM.at225) rfl (gM.r216) (by decide) ?_
      refine gx_iload_n (i := 1) hC dX7_endurance_31 rfl rfl ?_
      refine gx_callS1 hC dX7_endurance_32 (c_X7_at _ _ _) kY_X7_at kS_X7_at ml_X7_52 (by decide) rfl rfl rfl (by first | exact Nat.le_of_ble_eq_true rfl | (simp [Value.category, isR_cat kv_isR, isR_cat aref_isR]; done)) (Nat.le_refl _) (Nat.le_refl _) ?_
      refine gx_iconst (v := nI 1) hC dX7_endurance_35 ic_1n ?_
      refine gx_iadd hC dX7_endurance_36 ?_
      rw [nI_add]
      refine gx_iald hC dX7_endurance_37 (by first | exact gM.at215 | exact gM.at216 | exact gM.at217 | exact gM.at218 | exact gM.at219 | exact gM.at220 | exact gM.at221 | exact gM.at222 | exact gM.at223 | exact gM.at224 | exact gM.at225) (by exact vpn (by omega) (by decide)) (pRn (by omega)) ?_
      refine gx_aload_n (i := 0) hC dX7_endurance_38 rfl rfl (by first | exact Or.inr ⟨_, rfl⟩ | exact Or.inl rfl | exact kv_isR | exact aref_isR) ?_
      refine gx_getR hC dX7_endurance_39 fl_X7_35 (by first | exact gM.at215 | exact gM.at216 | exact gM.at217 | exact gM.at218 | exact gM.at219 | exact gM.at220 | exact gM.at221 | exact gM.at222 | exact gM.at223 | exact gM.at224 | exact gM.at225) rfl (gM.r224) (by decide) ?_
      refine gx_aload_n (i := 0) hC dX7_endurance_42 rfl rfl (by first | exact Or.inr ⟨_, rfl⟩ | exact Or.inl rfl | exact kv_isR | exact aref_isR) ?_
      refine gx_getR hC dX7_endurance_43 fl_X7_7 (by first | exact gM.at215 | exact gM.at216 | exact gM.at217 | exact gM.at218 | exact gM.at219 | exact gM.at220 | exact gM.at221 | exact gM.at222 | exact gM.at223 | exact gM.at224 | exact gM.at225) rfl (gM.r216) (by decide) ?_
      refine gx_iload_n (i := 1) hC dX7_endurance_46 rfl rfl ?_
      refine gx_callS1 hC dX7_endurance_47 (c_X7_at _ _ _) kY_X7_at kS_X7_at ml_X7_52 (by decide) rfl rfl rfl (by first | exact Nat.le_of_ble_eq_true rfl | (simp [Value.category, isR_cat kv_isR, isR_cat aref_isR]; done)) (Nat.le_refl _) (Nat.le_refl _) ?_
      refine gx_iald hC dX7_endurance_50 (by first | exact gM.at215 | exact gM.at216 | exact gM.at217 | exact gM.at218 | exact gM.at219 | exact gM.at220 | exact gM.at221 | exact gM.at222 | exact gM.at223 | exact gM.at224 | exact gM.at225) (by exact vpn (by omega) (by decide)) (pRn (by omega)) ?_
      refine gx_iald hC dX7_endurance_51 (by first | exact gM.at215 | exact gM.at216 | exact gM.at217 | exact gM.at218 | exact gM.at219 | exact gM.at220 | exact gM.at221 | exact gM.at222 | exact gM.at223 | exact gM.at224 | exact gM.at225) (by exact hk_in (hW.kd hj)) ((pRo (by decide)).trans ((hR3 _ (hW.kd hj)).2.1)) ?_
      refine gx_isub hC dX7_endurance_52 ?_
      refine gx_istore_n (i := 2) (L' := [_, _, _, _]) hC dX7_endurance_53 rfl (Nat.le_of_ble_eq_true rfl) rfl (fun u h9 => by first | exact Or.inl rfl | (cases h9; done) | (right; cases h9; first | rfl | exact isR_cat aref_isR | exact isR_cat kv_isR)) ?_
      refine gx_aload_n (i := 0) hC dX7_endurance_54 rfl rfl (by first | exact Or.inr ⟨_, rfl⟩ | exact Or.inl rfl | exact kv_isR | exact aref_isR) ?_
      refine gx_iload_n (i := 1) hC dX7_endurance_55 rfl rfl ?_
      refine gx_aload_n (i := 0) hC dX7_endurance_56 rfl rfl (by first | exact Or.inr ⟨_, rfl⟩ | exact Or.inl rfl | exact kv_isR | exact aref_isR) ?_
      refine gx_getR hC dX7_endurance_57 fl_X7_7 (by first | exact gM.at215 | exact gM.at216 | exact gM.at217 | exact gM.at218 | exact gM.at219 | exact gM.at220 | exact gM.at221 | exact gM.at222 | exact gM.at223 | exact gM.at224 | exact gM.at225) rfl (gM.r216) (by decide) ?_
      refine gx_iload_n (i := 1) hC dX7_endurance_60 rfl rfl ?_
      refine gx_callS1 hC dX7_endurance_61 (c_X7_at _ _ _) kY_X7_at kS_X7_at ml_X7_52 (by decide) rfl rfl rfl (by first | exact Nat.le_of_ble_eq_true rfl | (simp [Value.category, isR_cat kv_isR, isR_cat aref_isR]; done)) (Nat.le_refl _) (Nat.le_refl _) ?_
      refine gx_iconst (v := nI 3) hC dX7_endurance_64 ic_3n ?_
      refine gx_iadd hC dX7_endurance_65 ?_
      rw [nI_add]
      refine gx_iald hC dX7_endurance_66 (by first | exact gM.at215 | exact gM.at216 | exact gM.at217 | exact gM.at218 | exact gM.at219 | exact gM.at220 | exact gM.at221 | exact gM.at222 | exact gM.at223 | exact gM.at224 | exact gM.at225) (by exact vpn (by omega) (by decide)) (pRn (by omega)) ?_
      refine gx_callV1 hC dX7_endurance_67 (c_X7_burn _ _ gM hW hR3 (by omega) _) kY_X7_burn kV_X7_burn ml_X7_91 (by first | exact gM.at215 | exact gM.at216 | exact gM.at217 | exact gM.at218 | exact gM.at219 | exact gM.at220 | exact gM.at221 | exact gM.at222 | exact gM.at223 | exact gM.at224 | exact gM.at225) rfl (by decide) rfl rfl rfl (by first | exact Nat.le_of_ble_eq_true rfl | (simp [Value.category, isR_cat kv_isR, isR_cat aref_isR]; done)) (Nat.le_refl _) (Nat.le_refl _) ?_
      refine gx_istore_n (i := 3) (L' := [_, _, _, _]) hC dX7_endurance_70 rfl (Nat.le_of_ble_eq_true rfl) rfl (fun u h9 => by first | exact Or.inl rfl | (cases h9; done) | (right; cases h9; first | rfl | exact isR_cat aref_isR | exact isR_cat kv_isR)) ?_
      refine gx_iload_n (i := 2) hC dX7_endurance_71 rfl rfl ?_
      refine gx_if_gt (tgt := 79) hC dX7_endurance_72 (by decide) (fun c_72 => ?_) (fun c_72 => ?_)
      · refine gx_iload_n (i := 2) hC dX7_endurance_79 rfl rfl ?_
        refine gx_iload_n (i := 3) hC dX7_endurance_80 rfl rfl ?_
        refine gx_iadd hC dX7_endurance_81 ?_
        refine gx_iconst (v := 1) hC dX7_endurance_82 ic_1 ?_
        refine gx_isub hC dX7_endurance_83 ?_
        refine gx_iload_n (i := 3) hC dX7_endurance_84 rfl rfl ?_
        refine gx_idiv hC dX7_endurance_85 (hne c_21) ?_
        exact gx_iret hC hQ dX7_endurance_86 ((by rw [mEu, if_neg (fun q => q c_21), if_neg (Int32.not_le.mpr c_72)])) (rfl) rfl
      · refine gx_iconst (v := 0) hC dX7_endurance_75 ic_0 ?_
        refine gx_goto (tgt := 86) hC dX7_endurance_76 (by decide) ?_
        exact gx_iret hC hQ dX7_endurance_86 ((by rw [mEu, if_neg (fun q => q c_21), if_pos (Int32.not_lt.mp c_72)])) (rfl) rfl
    · refine gx_bipush (v := -3) hC dX7_endurance_24 bp_m3 ?_
      exact gx_iret hC hQ dX7_endurance_26 ((by rw [mEu, if_pos c_21])) (rfl) rfl
  · exact absurd ((mCr_n hW hj).symm.trans c_5) (by decide)
