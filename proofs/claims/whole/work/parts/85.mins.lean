/-! minutesLeft of the model -/
set_option maxHeartbeats 4000000 in
set_option maxRecDepth 20000 in
theorem c_X7_minutesLeft (l : Launch) (z : hZt) {n : Nat} {M : hMem} {R : hRef} (gM : gMd n R) {v : Nat → Int32} {lv c : Nat} (hW : MW v lv c) (hR3 : CR M) (hl1 : 1 ≤ lv) {j : Nat} (hj : j < c) : hCt l z m_X7_minutesLeft [.ref (z.1 + 215), .int (nI j)] n (putRow M 216 v) R n (some (.int (mLm v lv c j))) (putRow (mFo M v lv c j) 216 v) R := by
  refine hs_start [some (.ref (z.1 + 215)), some (.int (nI j))] (by decide +kernel) rfl (by intro u hu; simp at hu; rcases hu with rfl | rfl <;> first | rfl | exact isR_cat kv_isR | exact isR_cat aref_isR) (Nat.le_of_ble_eq_true rfl) (Nat.le_refl _) (fun X hlX hN hC hQ => ?_)
  dsimp only at hC hQ
  have hc20 := hW.c20
  have hl16 := hW.l16
  refine gx_aload_n (i := 0) hC dX7_minutesLeft_0 rfl rfl (by first | exact Or.inr ⟨_, rfl⟩ | exact Or.inl rfl | exact kv_isR | exact aref_isR) ?_
  refine gx_iload_n (i := 1) hC dX7_minutesLeft_1 rfl rfl ?_
  refine gx_callV1 hC dX7_minutesLeft_2 (c_X7_isCraft _ _ gM _) kY_X7_isCraft kV_X7_isCraft ml_X7_85 (by first | exact gM.at215 | exact gM.at216) rfl (by decide) rfl rfl rfl (by first | exact Nat.le_of_ble_eq_true rfl | (simp [Value.category, isR_cat kv_isR, isR_cat aref_isR]; done)) (Nat.le_refl _) (Nat.le_refl _) ?_
  refine gx_ifb_eq (tgt := 16) hC dX7_minutesLeft_5 (by decide) (fun c_5 => ?_) (fun c_5 => ?_)
  · exact absurd ((mCr_n hW hj).symm.trans c_5) (by decide)
  · refine gx_aload_n (i := 0) hC dX7_minutesLeft_8 rfl rfl (by first | exact Or.inr ⟨_, rfl⟩ | exact Or.inl rfl | exact kv_isR | exact aref_isR) ?_
    refine gx_iload_n (i := 1) hC dX7_minutesLeft_9 rfl rfl ?_
    refine gx_callV1 hC dX7_minutesLeft_10 (c_X7_minutesOf _ _ gM hW hR3 hl1 hj) kY_X7_minutesOf kV_X7_minutesOf ml_X7_148 (by first | exact gM.at215 | exact gM.at216) rfl (by decide) rfl rfl rfl (by first | exact Nat.le_of_ble_eq_true rfl | (simp [Value.category, isR_cat kv_isR, isR_cat aref_isR]; done)) (Nat.le_refl _) (Nat.le_refl _) ?_
    refine gx_goto (tgt := 17) hC dX7_minutesLeft_13 (by decide) ?_
    exact gx_iret hC hQ dX7_minutesLeft_17 (rfl) (rfl) rfl
set_option maxHeartbeats 4000000 in
set_option maxRecDepth 20000 in
theorem c0_X7_minutesLeft (l : Launch) (z : hZt) {n : Nat} {M : hMem} {R : hRef} (gM : gMd n R) {v : Nat → Int32} {x : Int32} (hx : mCr v x = false) : hCt l z m_X7_minutesLeft [.ref (z.1 + 215), .int x] n (putRow M 216 v) R n (some (.int (-1))) (putRow M 216 v) R := by
  refine hs_start [some (.ref (z.1 + 215)), some (.int x)] (by decide +kernel) rfl (by intro u hu; simp at hu; rcases hu with rfl | rfl <;> first | rfl | exact isR_cat kv_isR | exact isR_cat aref_isR) (Nat.le_of_ble_eq_true rfl) (Nat.le_refl _) (fun X hlX hN hC hQ => ?_)
  dsimp only at hC hQ
  refine gx_aload_n (i := 0) hC dX7_minutesLeft_0 rfl rfl (by first | exact Or.inr ⟨_, rfl⟩ | exact Or.inl rfl | exact kv_isR | exact aref_isR) ?_
  refine gx_iload_n (i := 1) hC dX7_minutesLeft_1 rfl rfl ?_
  refine gx_callV1 hC dX7_minutesLeft_2 (c_X7_isCraft _ _ gM _) kY_X7_isCraft kV_X7_isCraft ml_X7_85 (by first | exact gM.at215 | exact gM.at216) rfl (by decide) rfl rfl rfl (by first | exact Nat.le_of_ble_eq_true rfl | (simp [Value.category, isR_cat kv_isR, isR_cat aref_isR]; done)) (Nat.le_refl _) (Nat.le_refl _) ?_
  refine gx_ifb_eq (tgt := 16) hC dX7_minutesLeft_5 (by decide) (fun c_5 => ?_) (fun c_5 => ?_)
  · refine gx_iconst (v := -1) hC dX7_minutesLeft_16 ic_m1 ?_
    exact gx_iret hC hQ dX7_minutesLeft_17 (rfl) (rfl) rfl
  · exact absurd (hx.symm.trans c_5) (by decide)
