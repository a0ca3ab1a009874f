theorem pM_i {n : Nat} {M : hMem} {R : hRef} {s c i k : Nat} (gG : GS n R) (h : i < 47) : pM M R s c i k = M i k := by
  unfold pM
  have := (pB_bas gG s).ge
  rw [up2_off (by omega), pSo (by omega)]
theorem pM_now {n : Nat} {M : hMem} {R : hRef} {s c : Nat} (gG : GS n R) : getS (pM M R s c) 1 = getS M 1 := by
  funext i k
  unfold getS
  split
  · exact pM_i gG (by omega)
  · rfl
theorem pM_hi {n : Nat} {M : hMem} {R : hRef} {s c i k : Nat} (gG : GS n R) (h : 164 ≤ i) : pM M R s c i k = M i k := by
  unfold pM
  have := (pB_bas gG s).ge
  rw [up2_off (by omega), pSo (by omega)]
set_option maxHeartbeats 4000000 in
set_option maxRecDepth 20000 in
theorem c_X6_begin (l : Launch) (z : hZt) {n : Nat} {M : hMem} {R : hRef} (gG : GS n R) {lv c : Nat} (hW : SW (getS M 1) lv c) {s : Nat} (hs : M 47 1 = nI s) (hs5 : s ≤ 5) {x : Int32} (h1 : ¬ x < 4) (h2 : x ≤ 16) : hCt l z m_X6_begin [.ref (z.1 + 0), .int x] n M R n (some (.int (M 1 3))) (putS (pM M R s c) 1 (sNew (getS M 1) x)) (pR R s) := by
  refine hs_start [some (.ref (z.1 + 0)), some (.int x), none] (by decide +kernel) rfl (by intro u hu; simp at hu; rcases hu with rfl | rfl <;> first | rfl | exact isR_cat kv_isR | exact isR_cat aref_isR) (Nat.le_of_ble_eq_true rfl) (Nat.le_refl _) (fun X hlX hN hC hQ => ?_)
  dsimp only at hC hQ
  have g1 := GSpR gG s
  have hW1 : SW (getS (pM M R s c) 1) lv c := by rw [pM_now gG]; exact hW
  refine gx_iload_n (i := 1) hC dX6_begin_0 rfl rfl ?_
  refine gx_iconst (v := 4) hC dX6_begin_1 ic_4 ?_
  refine gx_icmp_lt (tgt := 11) hC dX6_begin_2 (by decide) (fun c_2 => ?_) (fun c_2 => ?_)
  · exact absurd c_2 h1
  · refine gx_iload_n (i := 1) hC dX6_begin_5 rfl rfl ?_
    refine gx_bipush (v := 16) hC dX6_begin_6 bp_16 ?_
    refine gx_icmp_le (tgt := 14) hC dX6_begin_8 (by decide) (fun c_8 => ?_) (fun c_8 => ?_)
    · refine gx_aload_n (i := 0) hC dX6_begin_14 rfl rfl (by first | exact Or.inr ⟨_, rfl⟩ | exact Or.inl rfl | exact kv_isR | exact aref_isR) ?_
      refine gx_getR hC dX6_begin_15 fl_X6_22 (by first | exact gG.at0 | exact gG.at47 | exact gG.at48 | exact gG.at164 | exact gG.at165 | exact gG.at166 | exact gG.at213 | exact gG.at214 | exact gG.now.at | exact gG.ahd.at) rfl (by first | exact gG.r2 | exact g1.r2) (by decide) ?_
      refine gx_aload_n (i := 0) hC dX6_begin_18 rfl rfl (by first | exact Or.inr ⟨_, rfl⟩ | exact Or.inl rfl | exact kv_isR | exact aref_isR) ?_
      refine gx_getR hC dX6_begin_19 fl_X6_10 (by first | exact gG.at0 | exact gG.at47 | exact gG.at48 | exact gG.at164 | exact gG.at165 | exact gG.at166 | exact gG.at213 | exact gG.at214 | exact gG.now.at | exact gG.ahd.at) rfl (by first | exact gG.r0 | exact g1.r0) (by decide) ?_
      refine gx_callV0 hC dX6_begin_22 (c_X1_push _ _ gG hs hs5 (getS_0.symm.trans hW.ct) hW.c20) kY_X1_push kV_X1_push ml_X6_40 (by first | exact gG.at0 | exact gG.at47 | exact gG.at48 | exact gG.at164 | exact gG.at165 | exact gG.at166 | exact gG.at213 | exact gG.at214 | exact gG.now.at | exact gG.ahd.at) rfl (by decide) rfl rfl rfl (by first | exact Nat.le_of_ble_eq_true rfl | (simp [Value.category, isR_cat kv_isR, isR_cat aref_isR]; done)) (Nat.le_refl _) (Nat.le_refl _) ?_
      refine gx_aload_n (i := 0) hC dX6_begin_25 rfl rfl (by first | exact Or.inr ⟨_, rfl⟩ | exact Or.inl rfl | exact kv_isR | exact aref_isR) ?_
      refine gx_getR hC dX6_begin_26 fl_X6_10 (by first | exact gG.at0 | exact gG.at47 | exact gG.at48 | exact gG.at164 | exact gG.at165 | exact gG.at166 | exact gG.at213 | exact gG.at214 | exact gG.now.at | exact gG.ahd.at) rfl (by first | exact gG.r0 | exact g1.r0) (by decide) ?_
      refine gx_getI hC dX6_begin_29 fl_X6_44 (by first | exact gG.at0 | exact gG.at47 | exact gG.at48 | exact gG.at164 | exact gG.at165 | exact gG.at166 | exact gG.at213 | exact gG.at214 | exact gG.now.at | exact gG.ahd.at) (by decide) (by first | exact pM_i gG (by decide) | exact rfl) ?_
      refine gx_istore_n (i := 2) (L' := [_, _, _]) hC dX6_begin_32 rfl (Nat.le_of_ble_eq_true rfl) rfl (fun u h9 => by first | exact Or.inl rfl | (cases h9; done) | (right; cases h9; first | rfl | exact isR_cat aref_isR | exact isR_cat kv_isR)) ?_
      refine gx_aload_n (i := 0) hC dX6_begin_33 rfl rfl (by first | exact Or.inr ⟨_, rfl⟩ | exact Or.inl rfl | exact kv_isR | exact aref_isR) ?_
      refine gx_getR hC dX6_begin_34 fl_X6_10 (by first | exact gG.at0 | exact gG.at47 | exact gG.at48 | exact gG.at164 | exact gG.at165 | exact gG.at166 | exact gG.at213 | exact gG.at214 | exact gG.now.at | exact gG.ahd.at) rfl (by first | exact gG.r0 | exact g1.r0) (by decide) ?_
      refine gx_iload_n (i := 1) hC dX6_begin_37 rfl rfl ?_
      refine gx_callV0 hC dX6_begin_38 (e_X4_beginAnew g1.now _) kY_X4_beginAnew kV_X4_beginAnew ml_X6_48 (by first | exact gG.at0 | exact gG.at47 | exact gG.at48 | exact gG.at164 | exact gG.at165 | exact gG.at166 | exact gG.at213 | exact gG.at214 | exact gG.now.at | exact gG.ahd.at) rfl (by decide) rfl rfl rfl (by first | exact Nat.le_of_ble_eq_true rfl | (simp [Value.category, isR_cat kv_isR, isR_cat aref_isR]; done)) (Nat.le_refl _) (Nat.le_refl _) ?_
      refine gx_iload_n (i := 2) hC dX6_begin_41 rfl rfl ?_
      exact gx_iret hC hQ dX6_begin_42 (rfl) (by rw [pM_now gG]) rfl
    · exact absurd h2 c_8
set_option maxHeartbeats 4000000 in
set_option maxRecDepth 20000 in
theorem c0_X6_begin (l : Launch) (z : hZt) {n : Nat} {M : hMem} {R : hRef} (gG : GS n R) {x : Int32} (h : x < 4 ∨ 16 < x) : hCt l z m_X6_begin [.ref (z.1 + 0), .int x] n M R n (some (.int (-2))) M R := by
  refine hs_start [some (.ref (z.1 + 0)), some (.int x), none] (by decide +kernel) rfl (by intro u hu; simp at hu; rcases hu with rfl | rfl <;> first | rfl | exact isR_cat kv_isR | exact isR_cat aref_isR) (Nat.le_of_ble_eq_true rfl) (Nat.le_refl _) (fun X hlX hN hC hQ => ?_)
  dsimp only at hC hQ
  refine gx_iload_n (i := 1) hC dX6_begin_0 rfl rfl ?_
  refine gx_iconst (v := 4) hC dX6_begin_1 ic_4 ?_
  refine gx_icmp_lt (tgt := 11) hC dX6_begin_2 (by decide) (fun c_2 => ?_) (fun c_2 => ?_)
  · refine gx_bipush (v := -2) hC dX6_begin_11 bp_m2 ?_
    exact gx_iret hC hQ dX6_begin_13 (rfl) (rfl) rfl
  · refine gx_iload_n (i := 1) hC dX6_begin_5 rfl rfl ?_
    refine gx_bipush (v := 16) hC dX6_begin_6 bp_16 ?_
    refine gx_icmp_le (tgt := 14) hC dX6_begin_8 (by decide) (fun c_8 => ?_) (fun c_8 => ?_)
    · exact absurd h (fun q => q.elim c_2 (Int32.not_lt.mpr c_8))
    · refine gx_bipush (v := -2) hC dX6_begin_11 bp_m2 ?_
      exact gx_iret hC hQ dX6_begin_13 (rfl) (rfl) rfl
set_option maxHeartbeats 4000000 in
set_option maxRecDepth 20000 in
theorem c_X6_setLap (l : Launch) (z : hZt) {n : Nat} {M : hMem} {R : hRef} (gG : GS n R) {lv c : Nat} (hW : SW (getS M 1) lv c) {s : Nat} (hs : M 47 1 = nI s) (hs5 : s ≤ 5) {x : Int32} (h1 : ¬ x < 2) (h2 : x ≤ 8) : hCt l z m_X6_setLap [.ref (z.1 + 0), .int x] n M R n (some (.int (M 1 4))) (putS (pM M R s c) 1 (sLap (getS M 1) lv x)) (pR R s) := by
  refine hs_start [some (.ref (z.1 + 0)), some (.int x), none] (by decide +kernel) rfl (by intro u hu; simp at hu; rcases hu with rfl | rfl <;> first | rfl | exact isR_cat kv_isR | exact isR_cat aref_isR) (Nat.le_of_ble_eq_true rfl) (Nat.le_refl _) (fun X hlX hN hC hQ => ?_)
  dsimp only at hC hQ
  have g1 := GSpR gG s
  have hW1 : SW (getS (pM M R s c) 1) lv c := by rw [pM_now gG]; exact hW
  refine gx_iload_n (i := 1) hC dX6_setLap_0 rfl rfl ?_
  refine gx_iconst (v := 2) hC dX6_setLap_1 ic_2 ?_
  refine gx_icmp_lt (tgt := 11) hC dX6_setLap_2 (by decide) (fun c_2 => ?_) (fun c_2 => ?_)
  · exact absurd c_2 h1
  · refine gx_iload_n (i := 1) hC dX6_setLap_5 rfl rfl ?_
    refine gx_bipush (v := 8) hC dX6_setLap_6 bp_8 ?_
    refine gx_icmp_le (tgt := 14) hC dX6_setLap_8 (by decide) (fun c_8 => ?_) (fun c_8 => ?_)
    · refine gx_aload_n (i := 0) hC dX6_setLap_14 rfl rfl (by first | exact Or.inr ⟨_, rfl⟩ | exact Or.inl rfl | exact kv_isR | exact aref_isR) ?_
      refine gx_getR hC dX6_setLap_15 fl_X6_22 (by first | exact gG.at0 | exact gG.at47 | exact gG.at48 | exact gG.at164 | exact gG.at165 | exact gG.at166 | exact gG.at213 | exact gG.at214 | exact gG.now.at | exact gG.ahd.at) rfl (by first | exact gG.r2 | exact g1.r2) (by decide) ?_
      refine gx_aload_n (i := 0) hC dX6_setLap_18 rfl rfl (by first | exact Or.inr ⟨_, rfl⟩ | exact Or.inl rfl | exact kv_isR | exact aref_isR) ?_
      refine gx_getR hC dX6_setLap_19 fl_X6_10 (by first | exact gG.at0 | exact gG.at47 | exact gG.at48 | exact gG.at164 | exact gG.at165 | exact gG.at166 | exact gG.at213 | exact gG.at214 | exact gG.now.at | exact gG.ahd.at) rfl (by first | exact gG.r0 | exact g1.r0) (by decide) ?_
      refine gx_callV0 hC dX6_setLap_22 (c_X1_push _ _ gG hs hs5 (getS_0.symm.trans hW.ct) hW.c20) kY_X1_push kV_X1_push ml_X6_40 (by first | exact gG.at0 | exact gG.at47 | exact gG.at48 | exact gG.at164 | exact gG.at165 | exact gG.at166 | exact gG.at213 | exact gG.at214 | exact gG.now.at | exact gG.ahd.at) rfl (by decide) rfl rfl rfl (by first | exact Nat.le_of_ble_eq_true rfl | (simp [Value.category, isR_cat kv_isR, isR_cat aref_isR]; done)) (Nat.le_refl _) (Nat.le_refl _) ?_
      refine gx_aload_n (i := 0) hC dX6_setLap_25 rfl rfl (by first | exact Or.inr ⟨_, rfl⟩ | exact Or.inl rfl | exact kv_isR | exact aref_isR) ?_
      refine gx_getR hC dX6_setLap_26 fl_X6_10 (by first | exact gG.at0 | exact gG.at47 | exact gG.at48 | exact gG.at164 | exact gG.at165 | exact gG.at166 | exact gG.at213 | exact gG.at214 | exact gG.now.at | exact gG.ahd.at) rfl (by first | exact gG.r0 | exact g1.r0) (by decide) ?_
      refine gx_getI hC dX6_setLap_29 fl_X6_52 (by first | exact gG.at0 | exact gG.at47 | exact gG.at48 | exact gG.at164 | exact gG.at165 | exact gG.at166 | exact gG.at213 | exact gG.at214 | exact gG.now.at | exact gG.ahd.at) (by decide) (by first | exact pM_i gG (by decide) | exact rfl) ?_
      refine gx_istore_n (i := 2) (L' := [_, _, _]) hC dX6_setLap_32 rfl (Nat.le_of_ble_eq_true rfl) rfl (fun u h9 => by first | exact Or.inl rfl | (cases h9; done) | (right; cases h9; first | rfl | exact isR_cat aref_isR | exact isR_cat kv_isR)) ?_
      refine gx_aload_n (i := 0) hC dX6_setLap_33 rfl rfl (by first | exact Or.inr ⟨_, rfl⟩ | exact Or.inl rfl | exact kv_isR | exact aref_isR) ?_
      refine gx_getR hC dX6_setLap_34 fl_X6_10 (by first | exact gG.at0 | exact gG.at47 | exact gG.at48 | exact gG.at164 | exact gG.at165 | exact gG.at166 | exact gG.at213 | exact gG.at214 | exact gG.now.at | exact gG.ahd.at) rfl (by first | exact gG.r0 | exact g1.r0) (by decide) ?_
      refine gx_iload_n (i := 1) hC dX6_setLap_37 rfl rfl ?_
      refine gx_callV0 hC dX6_setLap_38 (e_X4_changeLap g1.now hW1 _) kY_X4_changeLap kV_X4_changeLap ml_X6_55 (by first | exact gG.at0 | exact gG.at47 | exact gG.at48 | exact gG.at164 | exact gG.at165 | exact gG.at166 | exact gG.at213 | exact gG.at214 | exact gG.now.at | exact gG.ahd.at) rfl (by decide) rfl rfl rfl (by first | exact Nat.le_of_ble_eq_true rfl | (simp [Value.category, isR_cat kv_isR, isR_cat aref_isR]; done)) (Nat.le_refl _) (Nat.le_refl _) ?_
      refine gx_iload_n (i := 2) hC dX6_setLap_41 rfl rfl ?_
      exact gx_iret hC hQ dX6_setLap_42 (rfl) (by rw [pM_now gG]) rfl
    · exact absurd h2 c_8
set_option maxHeartbeats 4000000 in
set_option maxRecDepth 20000 in
theorem c0_X6_setLap (l : Launch) (z : hZt) {n : Nat} {M : hMem} {R : hRef} (gG : GS n R) {x : Int32} (h : x < 2 ∨ 8 < x) : hCt l z m_X6_setLap [.ref (z.1 + 0), .int x] n M R n (some (.int (-2))) M R := by
  refine hs_start [some (.ref (z.1 + 0)), some (.int x), none] (by decide +kernel) rfl (by intro u hu; simp at hu; rcases hu with rfl | rfl <;> first | rfl | exact isR_cat kv_isR | exact isR_cat aref_isR) (Nat.le_of_ble_eq_true rfl) (Nat.le_refl _) (fun X hlX hN hC hQ => ?_)
  dsimp only at hC hQ
  refine gx_iload_n (i := 1) hC dX6_setLap_0 rfl rfl ?_
  refine gx_iconst (v := 2) hC dX6_setLap_1 ic_2 ?_
  refine gx_icmp_lt (tgt := 11) hC dX6_setLap_2 (by decide) (fun c_2 => ?_) (fun c_2 => ?_)
  · refine gx_bipush (v := -2) hC dX6_setLap_11 bp_m2 ?_
    exact gx_iret hC hQ dX6_setLap_13 (rfl) (rfl) rfl
  · refine gx_iload_n (i := 1) hC dX6_setLap_5 rfl rfl ?_
    refine gx_bipush (v := 8) hC dX6_setLap_6 bp_8 ?_
    refine gx_icmp_le (tgt := 14) hC dX6_setLap_8 (by decide) (fun c_8 => ?_) (fun c_8 => ?_)
    · exact absurd h (fun q => q.elim c_2 (Int32.not_lt.mpr c_8))
    · refine gx_bipush (v := -2) hC dX6_setLap_11 bp_m2 ?_
      exact gx_iret hC hQ dX6_setLap_13 (rfl) (rfl) rfl
set_option maxHeartbeats 4000000 in
set_option maxRecDepth 20000 in
theorem c_X6_setLimit (l : Launch) (z : hZt) {n : Nat} {M : hMem} {R : hRef} (gG : GS n R) {lv c : Nat} (hW : SW (getS M 1) lv c) {s : Nat} (hs : M 47 1 = nI s) (hs5 : s ≤ 5) {x : Int32} (h1 : ¬ x < 1) (h2 : x ≤ 16) : hCt l z m_X6_setLimit [.ref (z.1 + 0), .int x] n M R n (some (.int (M 1 5))) (up2 (pM M R s c) 1 5 x) (pR R s) := by
  refine hs_start [some (.ref (z.1 + 0)), some (.int x), none] (by decide +kernel) rfl (by intro u hu; simp at hu; rcases hu with rfl | rfl <;> first | rfl | exact isR_cat kv_isR | exact isR_cat aref_isR) (Nat.le_of_ble_eq_true rfl) (Nat.le_refl _) (fun X hlX hN hC hQ => ?_)
  dsimp only at hC hQ
  have g1 := GSpR gG s
  have hW1 : SW (getS (pM M R s c) 1) lv c := by rw [pM_now gG]; exact hW
  refine gx_iload_n (i := 1) hC dX6_setLimit_0 rfl rfl ?_
  refine gx_iconst (v := 1) hC dX6_setLimit_1 ic_1 ?_
  refine gx_icmp_lt (tgt := 11) hC dX6_setLimit_2 (by decide) (fun c_2 => ?_) (fun c_2 => ?_)
  · exact absurd c_2 h1
  · refine gx_iload_n (i := 1) hC dX6_setLimit_5 rfl rfl ?_
    refine gx_bipush (v := 16) hC dX6_setLimit_6 bp_16 ?_
    refine gx_icmp_le (tgt := 14) hC dX6_setLimit_8 (by decide) (fun c_8 => ?_) (fun c_8 => ?_)
    · refine gx_aload_n (i := 0) hC dX6_setLimit_14 rfl rfl (by first | exact Or.inr ⟨_, rfl⟩ | exact Or.inl rfl | exact kv_isR | exact aref_isR) ?_
      refine gx_getR hC dX6_setLimit_15 fl_X6_22 (by first | exact gG.at0 | exact gG.at47 | exact gG.at48 | exact gG.at164 | exact gG.at165 | exact gG.at166 | exact gG.at213 | exact gG.at214 | exact gG.now.at | exact gG.ahd.at) rfl (by first | exact gG.r2 | exact g1.r2) (by decide) ?_
      refine gx_aload_n (i := 0) hC dX6_setLimit_18 rfl rfl (by first | exact Or.inr ⟨_, rfl⟩ | exact Or.inl rfl | exact kv_isR | exact aref_isR) ?_
      refine gx_getR hC dX6_setLimit_19 fl_X6_10 (by first | exact gG.at0 | exact gG.at47 | exact gG.at48 | exact gG.at164 | exact gG.at165 | exact gG.at166 | exact gG.at213 | exact gG.at214 | exact gG.now.at | exact gG.ahd.at) rfl (by first | exact gG.r0 | exact g1.r0) (by decide) ?_
      refine gx_callV0 hC dX6_setLimit_22 (c_X1_push _ _ gG hs hs5 (getS_0.symm.trans hW.ct) hW.c20) kY_X1_push kV_X1_push ml_X6_40 (by first | exact gG.at0 | exact gG.at47 | exact gG.at48 | exact gG.at164 | exact gG.at165 | exact gG.at166 | exact gG.at213 | exact gG.at214 | exact gG.now.at | exact gG.ahd.at) rfl (by decide) rfl rfl rfl (by first | exact Nat.le_of_ble_eq_true rfl | (simp [Value.category, isR_cat kv_isR, isR_cat aref_isR]; done)) (Nat.le_refl _) (Nat.le_refl _) ?_
      refine gx_aload_n (i := 0) hC dX6_setLimit_25 rfl rfl (by first | exact Or.inr ⟨_, rfl⟩ | exact Or.inl rfl | exact kv_isR | exact aref_isR) ?_
      refine gx_getR hC dX6_setLimit_26 fl_X6_10 (by first | exact gG.at0 | exact gG.at47 | exact gG.at48 | exact gG.at164 | exact gG.at165 | exact gG.at166 | exact gG.at213 | exact gG.at214 | exact gG.now.at | exact gG.ahd.at) rfl (by first | exact gG.r0 | exact g1.r0) (by decide) ?_
      refine gx_getI hC dX6_setLimit_29 fl_X6_58 (by first | exact gG.at0 | exact gG.at47 | exact gG.at48 | exact gG.at164 | exact gG.at165 | exact gG.at166 | exact gG.at213 | exact gG.at214 | exact gG.now.at | exact gG.ahd.at) (by decide) (by first | exact pM_i gG (by decide) | exact rfl) ?_
      refine gx_istore_n (i := 2) (L' := [_, _, _]) hC dX6_setLimit_32 rfl (Nat.le_of_ble_eq_true rfl) rfl (fun u h9 => by first | exact Or.inl rfl | (cases h9; done) | (right; cases h9; first | rfl | exact isR_cat aref_isR | exact isR_cat kv_isR)) ?_
      refine gx_aload_n (i := 0) hC dX6_setLimit_33 rfl rfl (by first | exact Or.inr ⟨_, rfl⟩ | exact Or.inl rfl | exact kv_isR | exact aref_isR) ?_
      refine gx_getR hC dX6_setLimit_34 fl_X6_10 (by first | exact gG.at0 | exact gG.at47 | exact gG.at48 | exact gG.at164 | exact gG.at165 | exact gG.at166 | exact gG.at213 | exact gG.at214 | exact gG.now.at | exact gG.ahd.at) rfl (by first | exact gG.r0 | exact g1.r0) (by decide) ?_
      refine gx_iload_n (i := 1) hC dX6_setLimit_37 rfl rfl ?_
      refine gx_putI hC dX6_setLimit_38 fl_X6_58 (by first | exact gG.at0 | exact gG.at47 | exact gG.at48 | exact gG.at164 | exact gG.at165 | exact gG.at166 | exact gG.at213 | exact gG.at214 | exact gG.now.at | exact gG.ahd.at) fn_3_5 rfl (rfl) ?_
      refine gx_iload_n (i := 2) hC dX6_setLimit_41 rfl rfl ?_
      exact gx_iret hC hQ dX6_setLimit_42 (rfl) (rfl) rfl
    · exact absurd h2 c_8
set_option maxHeartbeats 4000000 in
set_option maxRecDepth 20000 in
theorem c0_X6_setLimit (l : Launch) (z : hZt) {n : Nat} {M : hMem} {R : hRef} (gG : GS n R) {x : Int32} (h : x < 1 ∨ 16 < x) : hCt l z m_X6_setLimit [.ref (z.1 + 0), .int x] n M R n (some (.int (-2))) M R := by
  refine hs_start [some (.ref (z.1 + 0)), some (.int x), none] (by decide +kernel) rfl (by intro u hu; simp at hu; rcases hu with rfl | rfl <;> first | rfl | exact isR_cat kv_isR | exact isR_cat aref_isR) (Nat.le_of_ble_eq_true rfl) (Nat.le_refl _) (fun X hlX hN hC hQ => ?_)
  dsimp only at hC hQ
  refine gx_iload_n (i := 1) hC dX6_setLimit_0 rfl rfl ?_
  refine gx_iconst (v := 1) hC dX6_setLimit_1 ic_1 ?_
  refine gx_icmp_lt (tgt := 11) hC dX6_setLimit_2 (by decide) (fun c_2 => ?_) (fun c_2 => ?_)
  · refine gx_bipush (v := -2) hC dX6_setLimit_11 bp_m2 ?_
    exact gx_iret hC hQ dX6_setLimit_13 (rfl) (rfl) rfl
  · refine gx_iload_n (i := 1) hC dX6_setLimit_5 rfl rfl ?_
    refine gx_bipush (v := 16) hC dX6_setLimit_6 bp_16 ?_
    refine gx_icmp_le (tgt := 14) hC dX6_setLimit_8 (by decide) (fun c_8 => ?_) (fun c_8 => ?_)
    · exact absurd h (fun q => q.elim c_2 (Int32.not_lt.mpr c_8))
    · refine gx_bipush (v := -2) hC dX6_setLimit_11 bp_m2 ?_
      exact gx_iret hC hQ dX6_setLimit_13 (rfl) (rfl) rfl
set_option maxHeartbeats 4000000 in
set_option maxRecDepth 20000 in
theorem c_X6_setRunway (l : Launch) (z : hZt) {n : Nat} {M : hMem} {R : hRef} (gG : GS n R) {lv c : Nat} (hW : SW (getS M 1) lv c) {s : Nat} (hs : M 47 1 = nI s) (hs5 : s ≤ 5) {x : Int32} (hx : x = 0 ∨ x = 1) : hCt l z m_X6_setRunway [.ref (z.1 + 0), .int x] n M R n (some (.int (M 1 6))) (up2 (pM M R s c) 1 6 x) (pR R s) := by
  refine hs_start [some (.ref (z.1 + 0)), some (.int x), none] (by decide +kernel) rfl (by intro u hu; simp at hu; rcases hu with rfl | rfl <;> first | rfl | exact isR_cat kv_isR | exact isR_cat aref_isR) (Nat.le_of_ble_eq_true rfl) (Nat.le_refl _) (fun X hlX hN hC hQ => ?_)
  dsimp only at hC hQ
  have g1 := GSpR gG s
  have hW1 : SW (getS (pM M R s c) 1) lv c := by rw [pM_now gG]; exact hW
  refine gx_aload_n (i := 0) hC dX6_setRunway_0 rfl rfl (by first | exact Or.inr ⟨_, rfl⟩ | exact Or.inl rfl | exact kv_isR | exact aref_isR) ?_
  refine gx_getR hC dX6_setRunway_1 fl_X6_22 (by first | exact gG.at0 | exact gG.at47 | exact gG.at48 | exact gG.at164 | exact gG.at165 | exact gG.at166 | exact gG.at213 | exact gG.at214 | exact gG.now.at | exact gG.ahd.at) rfl (by first | exact gG.r2 | exact g1.r2) (by decide) ?_
  refine gx_aload_n (i := 0) hC dX6_setRunway_4 rfl rfl (by first | exact Or.inr ⟨_, rfl⟩ | exact Or.inl rfl | exact kv_isR | exact aref_isR) ?_
  refine gx_getR hC dX6_setRunway_5 fl_X6_10 (by first | exact gG.at0 | exact gG.at47 | exact gG.at48 | exact gG.at164 | exact gG.at165 | exact gG.at166 | exact gG.at213 | exact gG.at214 | exact gG.now.at | exact gG.ahd.at) rfl (by first | exact gG.r0 | exact g1.r0) (by decide) ?_
  refine gx_callV0 hC dX6_setRunway_8 (c_X1_push _ _ gG hs hs5 (getS_0.symm.trans hW.ct) hW.c20) kY_X1_push kV_X1_push ml_X6_40 (by first | exact gG.at0 | exact gG.at47 | exact gG.at48 | exact gG.at164 | exact gG.at165 | exact gG.at166 | exact gG.at213 | exact gG.at214 | exact gG.now.at | exact gG.ahd.at) rfl (by decide) rfl rfl rfl (by first | exact Nat.le_of_ble_eq_true rfl | (simp [Value.category, isR_cat kv_isR, isR_cat aref_isR]; done)) (Nat.le_refl _) (Nat.le_refl _) ?_
  refine gx_aload_n (i := 0) hC dX6_setRunway_11 rfl rfl (by first | exact Or.inr ⟨_, rfl⟩ | exact Or.inl rfl | exact kv_isR | exact aref_isR) ?_
  refine gx_getR hC dX6_setRunway_12 fl_X6_10 (by first | exact gG.at0 | exact gG.at47 | exact gG.at48 | exact gG.at164 | exact gG.at165 | exact gG.at166 | exact gG.at213 | exact gG.at214 | exact gG.now.at | exact gG.ahd.at) rfl (by first | exact gG.r0 | exact g1.r0) (by decide) ?_
  refine gx_getZ hC dX6_setRunway_15 fl_X6_61 (by first | exact gG.at0 | exact gG.at47 | exact gG.at48 | exact gG.at164 | exact gG.at165 | exact gG.at166 | exact gG.at213 | exact gG.at214 | exact gG.now.at | exact gG.ahd.at) rfl (by first | exact pM_i gG (by decide) | exact rfl) (fun hz_15 => ?_)
  refine gx_callS1 hC dX6_setRunway_18 (c_X6_asNumber _ _ (by assumption)) kY_X6_asNumber kS_X6_asNumber ml_X6_65 (by decide) rfl rfl rfl (by first | exact Nat.le_of_ble_eq_true rfl | (simp [Value.category, isR_cat kv_isR, isR_cat aref_isR]; done)) (Nat.le_refl _) (Nat.le_refl _) ?_
  refine gx_istore_n (i := 2) (L' := [_, _, _]) hC dX6_setRunway_21 rfl (Nat.le_of_ble_eq_true rfl) rfl (fun u h9 => by first | exact Or.inl rfl | (cases h9; done) | (right; cases h9; first | rfl | exact isR_cat aref_isR | exact isR_cat kv_isR)) ?_
  refine gx_aload_n (i := 0) hC dX6_setRunway_22 rfl rfl (by first | exact Or.inr ⟨_, rfl⟩ | exact Or.inl rfl | exact kv_isR | exact aref_isR) ?_
  refine gx_getR hC dX6_setRunway_23 fl_X6_10 (by first | exact gG.at0 | exact gG.at47 | exact gG.at48 | exact gG.at164 | exact gG.at165 | exact gG.at166 | exact gG.at213 | exact gG.at214 | exact gG.now.at | exact gG.ahd.at) rfl (by first | exact gG.r0 | exact g1.r0) (by decide) ?_
  refine gx_iload_n (i := 1) hC dX6_setRunway_26 rfl rfl ?_
  refine gx_putZ hC dX6_setRunway_27 fl_X6_61 (by first | exact gG.at0 | exact gG.at47 | exact gG.at48 | exact gG.at164 | exact gG.at165 | exact gG.at166 | exact gG.at213 | exact gG.at214 | exact gG.now.at | exact gG.ahd.at) fn_3_6 rfl (by first | exact Or.inl rfl | exact Or.inr rfl | exact b2_bit _ | assumption) (rfl) ?_
  refine gx_iload_n (i := 2) hC dX6_setRunway_30 rfl rfl ?_
  exact gx_iret hC hQ dX6_setRunway_31 (rfl) (rfl) rfl
set_option maxHeartbeats 4000000 in
set_option maxRecDepth 20000 in
theorem c_X6_setLadder (l : Launch) (z : hZt) {n : Nat} {M : hMem} {R : hRef} (gG : GS n R) {lv c : Nat} (hW : SW (getS M 1) lv c) {s : Nat} (hs : M 47 1 = nI s) (hs5 : s ≤ 5) {x : Int32} (hx : x = 0 ∨ x = 1) : hCt l z m_X6_setLadder [.ref (z.1 + 0), .int x] n M R n (some (.int (M 1 7))) (up2 (pM M R s c) 1 7 x) (pR R s) := by
  refine hs_start [some (.ref (z.1 + 0)), some (.int x), none] (by decide +kernel) rfl (by intro u hu; simp at hu; rcases hu with rfl | rfl <;> first | rfl | exact isR_cat kv_isR | exact isR_cat aref_isR) (Nat.le_of_ble_eq_true rfl) (Nat.le_refl _) (fun X hlX hN hC hQ => ?_)
  dsimp only at hC hQ
  have g1 := GSpR gG s
  have hW1 : SW (getS (pM M R s c) 1) lv c := by rw [pM_now gG]; exact hW
  refine gx_aload_n (i := 0) hC dX6_setLadder_0 rfl rfl (by first | exact Or.inr ⟨_, rfl⟩ | exact Or.inl rfl | exact kv_isR | exact aref_isR) ?_
  refine gx_getR hC dX6_setLadder_1 fl_X6_22 (by first | exact gG.at0 | exact gG.at47 | exact gG.at48 | exact gG.at164 | exact gG.at165 | exact gG.at166 | exact gG.at213 | exact gG.at214 | exact gG.now.at | exact gG.ahd.at) rfl (by first | exact gG.r2 | exact g1.r2) (by decide) ?_
  refine gx_aload_n (i := 0) hC dX6_setLadder_4 rfl rfl (by first | exact Or.inr ⟨_, rfl⟩ | exact Or.inl rfl | exact kv_isR | exact aref_isR) ?_
  refine gx_getR hC dX6_setLadder_5 fl_X6_10 (by first | exact gG.at0 | exact gG.at47 | exact gG.at48 | exact gG.at164 | exact gG.at165 | exact gG.at166 | exact gG.at213 | exact gG.at214 | exact gG.now.at | exact gG.ahd.at) rfl (by first | exact gG.r0 | exact g1.r0) (by decide) ?_
  refine gx_callV0 hC dX6_setLadder_8 (c_X1_push _ _ gG hs hs5 (getS_0.symm.trans hW.ct) hW.c20) kY_X1_push kV_X1_push ml_X6_40 (by first | exact gG.at0 | exact gG.at47 | exact gG.at48 | exact gG.at164 | exact gG.at165 | exact gG.at166 | exact gG.at213 | exact gG.at214 | exact gG.now.at | exact gG.ahd.at) rfl (by decide) rfl rfl rfl (by first | exact Nat.le_of_ble_eq_true rfl | (simp [Value.category, isR_cat kv_isR, isR_cat aref_isR]; done)) (Nat.le_refl _) (Nat.le_refl _) ?_
  refine gx_aload_n (i := 0) hC dX6_setLadder_11 rfl rfl (by first | exact Or.inr ⟨_, rfl⟩ | exact Or.inl rfl | exact kv_isR | exact aref_isR) ?_
  refine gx_getR hC dX6_setLadder_12 fl_X6_10 (by first | exact gG.at0 | exact gG.at47 | exact gG.at48 | exact gG.at164 | exact gG.at165 | exact gG.at166 | exact gG.at213 | exact gG.at214 | exact gG.now.at | exact gG.ahd.at) rfl (by first | exact gG.r0 | exact g1.r0) (by decide) ?_
  refine gx_getZ hC dX6_setLadder_15 fl_X6_69 (by first | exact gG.at0 | exact gG.at47 | exact gG.at48 | exact gG.at164 | exact gG.at165 | exact gG.at166 | exact gG.at213 | exact gG.at214 | exact gG.now.at | exact gG.ahd.at) rfl (by first | exact pM_i gG (by decide) | exact rfl) (fun hz_15 => ?_)
  refine gx_callS1 hC dX6_setLadder_18 (c_X6_asNumber _ _ (by assumption)) kY_X6_asNumber kS_X6_asNumber ml_X6_65 (by decide) rfl rfl rfl (by first | exact Nat.le_of_ble_eq_true rfl | (simp [Value.category, isR_cat kv_isR, isR_cat aref_isR]; done)) (Nat.le_refl _) (Nat.le_refl _) ?_
  refine gx_istore_n (i := 2) (L' := [_, _, _]) hC dX6_setLadder_21 rfl (Nat.le_of_ble_eq_true rfl) rfl (fun u h9 => by first | exact Or.inl rfl | (cases h9; done) | (right; cases h9; first | rfl | exact isR_cat aref_isR | exact isR_cat kv_isR)) ?_
  refine gx_aload_n (i := 0) hC dX6_setLadder_22 rfl rfl (by first | exact Or.inr ⟨_, rfl⟩ | exact Or.inl rfl | exact kv_isR | exact aref_isR) ?_
  refine gx_getR hC dX6_setLadder_23 fl_X6_10 (by first | exact gG.at0 | exact gG.at47 | exact gG.at48 | exact gG.at164 | exact gG.at165 | exact gG.at166 | exact gG.at213 | exact gG.at214 | exact gG.now.at | exact gG.ahd.at) rfl (by first | exact gG.r0 | exact g1.r0) (by decide) ?_
  refine gx_iload_n (i := 1) hC dX6_setLadder_26 rfl rfl ?_
  refine gx_putZ hC dX6_setLadder_27 fl_X6_69 (by first | exact gG.at0 | exact gG.at47 | exact gG.at48 | exact gG.at164 | exact gG.at165 | exact gG.at166 | exact gG.at213 | exact gG.at214 | exact gG.now.at | exact gG.ahd.at) fn_3_7 rfl (by first | exact Or.inl rfl | exact Or.inr rfl | exact b2_bit _ | assumption) (rfl) ?_
  refine gx_iload_n (i := 2) hC dX6_setLadder_30 rfl rfl ?_
  exact gx_iret hC hQ dX6_setLadder_31 (rfl) (rfl) rfl
theorem cEn_M {M : hMem} {c : Nat} {kd fuel lev : Int32} (h : (cEn M c kd fuel lev).1 = 0) : (cEn M c kd fuel lev).2 = M := by
  unfold cEn at h ⊢
  split at h
  · exact absurd (show ((-1) : Int32) = 0 from h) (by decide)
  · next h1 =>
    rw [if_neg h1]
    split at h
    · exact absurd (show ((-2) : Int32) = 0 from h) (by decide)
    · next h2 =>
      rw [if_neg h2]
      split at h
      · exact absurd (show ((-4) : Int32) = 0 from h) (by decide)
      · next h3 =>
        rw [if_neg h3]
        split at h
        · next h4 => rw [if_pos h4]
        · exact absurd (show ((-5) : Int32) = 0 from h) (by decide)
theorem cEn_ok {M : hMem} {lv c : Nat} {kd fuel lev : Int32} (hW : SW (getS M 1) lv c) (h : (cEn M c kd fuel lev).1 = 0) : c < 20 ∧ hk kd := by
  unfold cEn at h
  split at h
  · exact absurd (show ((-1) : Int32) = 0 from h) (by decide)
  · next h1 =>
    split at h
    · exact absurd (show ((-2) : Int32) = 0 from h) (by decide)
    · split at h
      · exact absurd (show ((-4) : Int32) = 0 from h) (by decide)
      · next h3 =>
        refine ⟨?_, ?_⟩
        · refine Nat.lt_of_not_le (fun q => h3 ?_)
          unfold bFull
          rw [hW.ct]
          exact decide_eq_true (nI_le q (by have := hW.c20; omega))
        · refine Classical.byContradiction (fun q => h1 (Or.inl (bK_f q)))
set_option maxHeartbeats 4000000 in
set_option maxRecDepth 20000 in
theorem c_X6_enter (l : Launch) (z : hZt) {n : Nat} {M : hMem} {R : hRef} (gG : GS n R) {lv c : Nat} (hW : SW (getS M 1) lv c) {s : Nat} (hs : M 47 1 = nI s) (hs5 : s ≤ 5) {kd fuel lev : Int32} (h0 : (cEn M c kd fuel lev).1 = 0) (hc : c < 20) : hCt l z m_X6_enter [.ref (z.1 + 0), .int kd, .int fuel, .int lev] n M R n (some (.int (nI c))) (putS (pM M R s c) 1 (sAdm (getS M 1) c kd fuel lev)) (pR R s) := by
  refine hs_start [some (.ref (z.1 + 0)), some (.int kd), some (.int fuel), some (.int lev), none, none] (by decide +kernel) rfl (by intro u hu; simp at hu; rcases hu with rfl | rfl | rfl | rfl <;> first | rfl | exact isR_cat kv_isR | exact isR_cat aref_isR) (Nat.le_of_ble_eq_true rfl) (Nat.le_refl _) (fun X hlX hN hC hQ => ?_)
  dsimp only at hC hQ
  have g1 := GSpR gG s
  have hW1 : SW (getS (pM M R s c) 1) lv c := by rw [pM_now gG]; exact hW
  refine gx_iload_n (i := 1) hC dX6_enter_0 rfl rfl ?_
  refine gx_callS1 hC dX6_enter_1 (c_X2_of _ _ _) kY_X2_of kS_X2_of ml_X6_72 (by decide) rfl rfl rfl (by first | exact Nat.le_of_ble_eq_true rfl | (simp [Value.category, isR_cat kv_isR, isR_cat aref_isR]; done)) (Nat.le_refl _) (Nat.le_refl _) ?_
  refine gx_astore (i := 4) (L' := [_, _, _, _, _, _]) hC dX6_enter_4 (Nat.le_of_ble_eq_true rfl) rfl (fun u h9 => by first | exact Or.inl rfl | (cases h9; done) | (right; cases h9; first | rfl | exact isR_cat aref_isR | exact isR_cat kv_isR)) (by first | exact kv_isR | exact Or.inr ⟨_, rfl⟩) ?_
  refine gx_aload_n (i := 0) hC dX6_enter_6 rfl rfl (by first | exact kv_isR | exact Or.inr ⟨_, rfl⟩) ?_
  refine gx_aload hC dX6_enter_7 rfl (by first | exact kv_isR | exact Or.inr ⟨_, rfl⟩) ?_
  refine gx_iload_n (i := 2) hC dX6_enter_9 rfl rfl ?_
  refine gx_iload_n (i := 3) hC dX6_enter_10 rfl rfl ?_
  refine gx_callV1 hC dX6_enter_11 (c_X6_checkEntry _ _ gG hW _ _ _) kY_X6_checkEntry kV_X6_checkEntry ml_X6_78 (by first | exact gG.at0 | exact gG.at47 | exact gG.at48 | exact gG.at164 | exact gG.at165 | exact gG.at166 | exact gG.at213 | exact gG.at214 | exact gG.now.at | exact gG.ahd.at) rfl (by decide) rfl rfl rfl (by first | exact Nat.le_of_ble_eq_true rfl | (simp [Value.category, isR_cat kv_isR, isR_cat aref_isR]; done)) (Nat.le_refl _) (Nat.le_refl _) ?_
  refine gx_istore (i := 5) (L' := [_, _, _, _, _, _]) hC dX6_enter_14 (Nat.le_of_ble_eq_true rfl) rfl (fun u h9 => by first | exact Or.inl rfl | (cases h9; done) | (right; cases h9; first | rfl | exact isR_cat aref_isR | exact isR_cat kv_isR)) ?_
  refine gx_iload hC dX6_enter_16 rfl ?_
  refine gx_if_eq (tgt := 24) hC dX6_enter_18 (by decide) (fun c_18 => ?_) (fun c_18 => ?_)
  · rw [cEn_M h0]
    refine gx_aload_n (i := 0) hC dX6_enter_24 rfl rfl (by first | exact kv_isR | exact Or.inr ⟨_, rfl⟩) ?_
    refine gx_getR hC dX6_enter_25 fl_X6_22 (by first | exact gG.at0 | exact gG.at47 | exact gG.at48 | exact gG.at164 | exact gG.at165 | exact gG.at166 | exact gG.at213 | exact gG.at214 | exact gG.now.at | exact gG.ahd.at) rfl (by first | exact gG.r2 | exact g1.r2) (by decide) ?_
    refine gx_aload_n (i := 0) hC dX6_enter_28 rfl rfl (by first | exact kv_isR | exact Or.inr ⟨_, rfl⟩) ?_
    refine gx_getR hC dX6_enter_29 fl_X6_10 (by first | exact gG.at0 | exact gG.at47 | exact gG.at48 | exact gG.at164 | exact gG.at165 | exact gG.at166 | exact gG.at213 | exact gG.at214 | exact gG.now.at | exact gG.ahd.at) rfl (by first | exact gG.r0 | exact g1.r0) (by decide) ?_
    refine gx_callV0 hC dX6_enter_32 (c_X1_push _ _ gG hs hs5 (getS_0.symm.trans hW.ct) hW.c20) kY_X1_push kV_X1_push ml_X6_40 (by first | exact gG.at0 | exact gG.at47 | exact gG.at48 | exact gG.at164 | exact gG.at165 | exact gG.at166 | exact gG.at213 | exact gG.at214 | exact gG.now.at | exact gG.ahd.at) rfl (by decide) rfl rfl rfl (by first | exact Nat.le_of_ble_eq_true rfl | (simp [Value.category, isR_cat kv_isR, isR_cat aref_isR]; done)) (Nat.le_refl _) (Nat.le_refl _) ?_
    refine gx_aload_n (i := 0) hC dX6_enter_35 rfl rfl (by first | exact kv_isR | exact Or.inr ⟨_, rfl⟩) ?_
    refine gx_getR hC dX6_enter_36 fl_X6_10 (by first | exact gG.at0 | exact gG.at47 | exact gG.at48 | exact gG.at164 | exact gG.at165 | exact gG.at166 | exact gG.at213 | exact gG.at214 | exact gG.now.at | exact gG.ahd.at) rfl (by first | exact gG.r0 | exact g1.r0) (by decide) ?_
    refine gx_aload hC dX6_enter_39 rfl (by first | exact kv_isR | exact Or.inr ⟨_, rfl⟩) ?_
    refine gx_iload_n (i := 2) hC dX6_enter_41 rfl rfl ?_
    refine gx_iload_n (i := 3) hC dX6_enter_42 rfl rfl ?_
    refine gx_callV1 hC dX6_enter_43 (e_X4_admit g1.now hW1 hc _ _ _) kY_X4_admit kV_X4_admit ml_X6_82 (by first | exact gG.at0 | exact gG.at47 | exact gG.at48 | exact gG.at164 | exact gG.at165 | exact gG.at166 | exact gG.at213 | exact gG.at214 | exact gG.now.at | exact gG.ahd.at) rfl (by decide) rfl rfl rfl (by first | exact Nat.le_of_ble_eq_true rfl | (simp [Value.category, isR_cat kv_isR, isR_cat aref_isR]; done)) (Nat.le_refl _) (Nat.le_refl _) ?_
    exact gx_iret hC hQ dX6_enter_46 (rfl) (by rw [pM_now gG]) rfl
  · exact absurd h0 c_18
set_option maxHeartbeats 4000000 in
set_option maxRecDepth 20000 in
theorem c0_X6_enter (l : Launch) (z : hZt) {n : Nat} {M : hMem} {R : hRef} (gG : GS n R) {lv c : Nat} (hW : SW (getS M 1) lv c) {kd fuel lev : Int32} (h0 : ¬ (cEn M c kd fuel lev).1 = 0) : hCt l z m_X6_enter [.ref (z.1 + 0), .int kd, .int fuel, .int lev] n M R n (some (.int (cEn M c kd fuel lev).1)) (cEn M c kd fuel lev).2 R := by
  refine hs_start [some (.ref (z.1 + 0)), some (.int kd), some (.int fuel), some (.int lev), none, none] (by decide +kernel) rfl (by intro u hu; simp at hu; rcases hu with rfl | rfl | rfl | rfl <;> first | rfl | exact isR_cat kv_isR | exact isR_cat aref_isR) (Nat.le_of_ble_eq_true rfl) (Nat.le_refl _) (fun X hlX hN hC hQ => ?_)
  dsimp only at hC hQ
  refine gx_iload_n (i := 1) hC dX6_enter_0 rfl rfl ?_
  refine gx_callS1 hC dX6_enter_1 (c_X2_of _ _ _) kY_X2_of kS_X2_of ml_X6_72 (by decide) rfl rfl rfl (by first | exact Nat.le_of_ble_eq_true rfl | (simp [Value.category, isR_cat kv_isR, isR_cat aref_isR]; done)) (Nat.le_refl _) (Nat.le_refl _) ?_
  refine gx_astore (i := 4) (L' := [_, _, _, _, _, _]) hC dX6_enter_4 (Nat.le_of_ble_eq_true rfl) rfl (fun u h9 => by first | exact Or.inl rfl | (cases h9; done) | (right; cases h9; first | rfl | exact isR_cat aref_isR | exact isR_cat kv_isR)) (by first | exact kv_isR | exact Or.inr ⟨_, rfl⟩) ?_
  refine gx_aload_n (i := 0) hC dX6_enter_6 rfl rfl (by first | exact kv_isR | exact Or.inr ⟨_, rfl⟩) ?_
  refine gx_aload hC dX6_enter_7 rfl (by first | exact kv_isR | exact Or.inr ⟨_, rfl⟩) ?_
  refine gx_iload_n (i := 2) hC dX6_enter_9 rfl rfl ?_
  refine gx_iload_n (i := 3) hC dX6_enter_10 rfl rfl ?_
  refine gx_callV1 hC dX6_enter_11 (c_X6_checkEntry _ _ gG hW _ _ _) kY_X6_checkEntry kV_X6_checkEntry ml_X6_78 (by first | exact gG.at0 | exact gG.at47 | exact gG.at48 | exact gG.at164 | exact gG.at165 | exact gG.at166 | exact gG.at213 | exact gG.at214 | exact gG.now.at | exact gG.ahd.at) rfl (by decide) rfl rfl rfl (by first | exact Nat.le_of_ble_eq_true rfl | (simp [Value.category, isR_cat kv_isR, isR_cat aref_isR]; done)) (Nat.le_refl _) (Nat.le_refl _) ?_
  refine gx_istore (i := 5) (L' := [_, _, _, _, _, _]) hC dX6_enter_14 (Nat.le_of_ble_eq_true rfl) rfl (fun u h9 => by first | exact Or.inl rfl | (cases h9; done) | (right; cases h9; first | rfl | exact isR_cat aref_isR | exact isR_cat kv_isR)) ?_
  refine gx_iload hC dX6_enter_16 rfl ?_
  refine gx_if_eq (tgt := 24) hC dX6_enter_18 (by decide) (fun c_18 => ?_) (fun c_18 => ?_)
  · exact absurd c_18 h0
  · refine gx_iload hC dX6_enter_21 rfl ?_
    exact gx_iret hC hQ dX6_enter_23 (rfl) (rfl) rfl
set_option maxHeartbeats 4000000 in
set_option maxRecDepth 20000 in
theorem c_X6_call (l : Launch) (z : hZt) {n : Nat} {M : hMem} {R : hRef} (gG : GS n R) {lv c : Nat} (hW : SW (getS M 1) lv c) {s : Nat} (hs : M 47 1 = nI s) (hs5 : s ≤ 5) {x : Int32} {j : Nat} (h0 : cCl M x = 0) (hj : sNum (getS M 1) x = some j) : hCt l z m_X6_call [.ref (z.1 + 0), .int x] n M R n (some (.int (getS M 1 (3 + j) 4))) (putS (pM M R s c) 1 (up2 (getS M 1) (3 + j) 6 1)) (pR R s) := by
  refine hs_start [some (.ref (z.1 + 0)), some (.int x), none] (by decide +kernel) rfl (by intro u hu; simp at hu; rcases hu with rfl | rfl <;> first | rfl | exact isR_cat kv_isR | exact isR_cat aref_isR) (Nat.le_of_ble_eq_true rfl) (Nat.le_refl _) (fun X hlX hN hC hQ => ?_)
  dsimp only at hC hQ
  have g1 := GSpR gG s
  have hW1 : SW (getS (pM M R s c) 1) lv c := by rw [pM_now gG]; exact hW
  have hj1 : sNum (getS (pM M R s c) 1) x = some j := by rw [pM_now gG]; exact hj
  refine gx_aload_n (i := 0) hC dX6_call_0 rfl rfl (by first | exact Or.inr ⟨_, rfl⟩ | exact Or.inl rfl | exact kv_isR | exact aref_isR) ?_
  refine gx_iload_n (i := 1) hC dX6_call_1 rfl rfl ?_
  refine gx_callV1 hC dX6_call_2 (c_X6_checkCall _ _ gG _) kY_X6_checkCall kV_X6_checkCall ml_X6_85 (by first | exact gG.at0 | exact gG.at47 | exact gG.at48 | exact gG.at164 | exact gG.at165 | exact gG.at166 | exact gG.at213 | exact gG.at214 | exact gG.now.at | exact gG.ahd.at) rfl (by decide) rfl rfl rfl (by first | exact Nat.le_of_ble_eq_true rfl | (simp [Value.category, isR_cat kv_isR, isR_cat aref_isR]; done)) (Nat.le_refl _) (Nat.le_refl _) ?_
  refine gx_istore_n (i := 2) (L' := [_, _, _]) hC dX6_call_5 rfl (Nat.le_of_ble_eq_true rfl) rfl (fun u h9 => by first | exact Or.inl rfl | (cases h9; done) | (right; cases h9; first | rfl | exact isR_cat aref_isR | exact isR_cat kv_isR)) ?_
  refine gx_iload_n (i := 2) hC dX6_call_6 rfl rfl ?_
  refine gx_if_eq (tgt := 12) hC dX6_call_7 (by decide) (fun c_7 => ?_) (fun c_7 => ?_)
  · refine gx_aload_n (i := 0) hC dX6_call_12 rfl rfl (by first | exact Or.inr ⟨_, rfl⟩ | exact Or.inl rfl | exact kv_isR | exact aref_isR) ?_
    refine gx_getR hC dX6_call_13 fl_X6_22 (by first | exact gG.at0 | exact gG.at47 | exact gG.at48 | exact gG.at164 | exact gG.at165 | exact gG.at166 | exact gG.at213 | exact gG.at214 | exact gG.now.at | exact gG.ahd.at) rfl (by first | exact gG.r2 | exact g1.r2) (by decide) ?_
    refine gx_aload_n (i := 0) hC dX6_call_16 rfl rfl (by first | exact Or.inr ⟨_, rfl⟩ | exact Or.inl rfl | exact kv_isR | exact aref_isR) ?_
    refine gx_getR hC dX6_call_17 fl_X6_10 (by first | exact gG.at0 | exact gG.at47 | exact gG.at48 | exact gG.at164 | exact gG.at165 | exact gG.at166 | exact gG.at213 | exact gG.at214 | exact gG.now.at | exact gG.ahd.at) rfl (by first | exact gG.r0 | exact g1.r0) (by decide) ?_
    refine gx_callV0 hC dX6_call_20 (c_X1_push _ _ gG hs hs5 (getS_0.symm.trans hW.ct) hW.c20) kY_X1_push kV_X1_push ml_X6_40 (by first | exact gG.at0 | exact gG.at47 | exact gG.at48 | exact gG.at164 | exact gG.at165 | exact gG.at166 | exact gG.at213 | exact gG.at214 | exact gG.now.at | exact gG.ahd.at) rfl (by decide) rfl rfl rfl (by first | exact Nat.le_of_ble_eq_true rfl | (simp [Value.category, isR_cat kv_isR, isR_cat aref_isR]; done)) (Nat.le_refl _) (Nat.le_refl _) ?_
    refine gx_aload_n (i := 0) hC dX6_call_23 rfl rfl (by first | exact Or.inr ⟨_, rfl⟩ | exact Or.inl rfl | exact kv_isR | exact aref_isR) ?_
    refine gx_getR hC dX6_call_24 fl_X6_10 (by first | exact gG.at0 | exact gG.at47 | exact gG.at48 | exact gG.at164 | exact gG.at165 | exact gG.at166 | exact gG.at213 | exact gG.at214 | exact gG.now.at | exact gG.ahd.at) rfl (by first | exact gG.r0 | exact g1.r0) (by decide) ?_
    refine gx_iload_n (i := 1) hC dX6_call_27 rfl rfl ?_
    refine gx_callV1 hC dX6_call_28 (e_X4_markCalled g1.now _ hj1) kY_X4_markCalled kV_X4_markCalled ml_X6_89 (by first | exact gG.at0 | exact gG.at47 | exact gG.at48 | exact gG.at164 | exact gG.at165 | exact gG.at166 | exact gG.at213 | exact gG.at214 | exact gG.now.at | exact gG.ahd.at) rfl (by decide) rfl rfl rfl (by first | exact Nat.le_of_ble_eq_true rfl | (simp [Value.category, isR_cat kv_isR, isR_cat aref_isR]; done)) (Nat.le_refl _) (Nat.le_refl _) ?_
    exact gx_iret hC hQ dX6_call_31 (by rw [pM_now gG]) (by rw [pM_now gG]) rfl
  · exact absurd h0 c_7
set_option maxHeartbeats 4000000 in
set_option maxRecDepth 20000 in
theorem c0_X6_call (l : Launch) (z : hZt) {n : Nat} {M : hMem} {R : hRef} (gG : GS n R) {x : Int32} (h0 : ¬ cCl M x = 0) : hCt l z m_X6_call [.ref (z.1 + 0), .int x] n M R n (some (.int (cCl M x))) M R := by
  refine hs_start [some (.ref (z.1 + 0)), some (.int x), none] (by decide +kernel) rfl (by intro u hu; simp at hu; rcases hu with rfl | rfl <;> first | rfl | exact isR_cat kv_isR | exact isR_cat aref_isR) (Nat.le_of_ble_eq_true rfl) (Nat.le_refl _) (fun X hlX hN hC hQ => ?_)
  dsimp only at hC hQ
  refine gx_aload_n (i := 0) hC dX6_call_0 rfl rfl (by first | exact Or.inr ⟨_, rfl⟩ | exact Or.inl rfl | exact kv_isR | exact aref_isR) ?_
  refine gx_iload_n (i := 1) hC dX6_call_1 rfl rfl ?_
  refine gx_callV1 hC dX6_call_2 (c_X6_checkCall _ _ gG _) kY_X6_checkCall kV_X6_checkCall ml_X6_85 (by first | exact gG.at0 | exact gG.at47 | exact gG.at48 | exact gG.at164 | exact gG.at165 | exact gG.at166 | exact gG.at213 | exact gG.at214 | exact gG.now.at | exact gG.ahd.at) rfl (by decide) rfl rfl rfl (by first | exact Nat.le_of_ble_eq_true rfl | (simp [Value.category, isR_cat kv_isR, isR_cat aref_isR]; done)) (Nat.le_refl _) (Nat.le_refl _) ?_
  refine gx_istore_n (i := 2) (L' := [_, _, _]) hC dX6_call_5 rfl (Nat.le_of_ble_eq_true rfl) rfl (fun u h9 => by first | exact Or.inl rfl | (cases h9; done) | (right; cases h9; first | rfl | exact isR_cat aref_isR | exact isR_cat kv_isR)) ?_
  refine gx_iload_n (i := 2) hC dX6_call_6 rfl rfl ?_
  refine gx_if_eq (tgt := 12) hC dX6_call_7 (by decide) (fun c_7 => ?_) (fun c_7 => ?_)
  · exact absurd c_7 h0
  · refine gx_iload_n (i := 2) hC dX6_call_10 rfl rfl ?_
    exact gx_iret hC hQ dX6_call_11 (rfl) (rfl) rfl
set_option maxHeartbeats 4000000 in
set_option maxRecDepth 20000 in
theorem c_X6_pass (l : Launch) (z : hZt) {n : Nat} {M : hMem} {R : hRef} (gG : GS n R) {lv c : Nat} (hW : SW (getS M 1) lv c) {s : Nat} (hs : M 47 1 = nI s) (hs5 : s ≤ 5) {x : Int32} (h1 : ¬ x < 1) (h2 : x ≤ 99) : hCt l z m_X6_pass [.ref (z.1 + 0), .int x] n M R n (some (.int (sMin (getS M 1) lv x.toNatClampNeg).1)) (putS (pM M R s c) 1 (sMin (getS M 1) lv x.toNatClampNeg).2) (pR R s) := by
  refine hs_start [some (.ref (z.1 + 0)), some (.int x)] (by decide +kernel) rfl (by intro u hu; simp at hu; rcases hu with rfl | rfl <;> first | rfl | exact isR_cat kv_isR | exact isR_cat aref_isR) (Nat.le_of_ble_eq_true rfl) (Nat.le_refl _) (fun X hlX hN hC hQ => ?_)
  dsimp only at hC hQ
  have g1 := GSpR gG s
  have hW1 : SW (getS (pM M R s c) 1) lv c := by rw [pM_now gG]; exact hW
  refine gx_iload_n (i := 1) hC dX6_pass_0 rfl rfl ?_
  refine gx_iconst (v := 1) hC dX6_pass_1 ic_1 ?_
  refine gx_icmp_lt (tgt := 11) hC dX6_pass_2 (by decide) (fun c_2 => ?_) (fun c_2 => ?_)
  · exact absurd c_2 h1
  · refine gx_iload_n (i := 1) hC dX6_pass_5 rfl rfl ?_
    refine gx_bipush (v := 99) hC dX6_pass_6 bp_99 ?_
    refine gx_icmp_le (tgt := 14) hC dX6_pass_8 (by decide) (fun c_8 => ?_) (fun c_8 => ?_)
    · refine gx_aload_n (i := 0) hC dX6_pass_14 rfl rfl (by first | exact Or.inr ⟨_, rfl⟩ | exact Or.inl rfl | exact kv_isR | exact aref_isR) ?_
      refine gx_getR hC dX6_pass_15 fl_X6_22 (by first | exact gG.at0 | exact gG.at47 | exact gG.at48 | exact gG.at164 | exact gG.at165 | exact gG.at166 | exact gG.at213 | exact gG.at214 | exact gG.now.at | exact gG.ahd.at) rfl (by first | exact gG.r2 | exact g1.r2) (by decide) ?_
      refine gx_aload_n (i := 0) hC dX6_pass_18 rfl rfl (by first | exact Or.inr ⟨_, rfl⟩ | exact Or.inl rfl | exact kv_isR | exact aref_isR) ?_
      refine gx_getR hC dX6_pass_19 fl_X6_10 (by first | exact gG.at0 | exact gG.at47 | exact gG.at48 | exact gG.at164 | exact gG.at165 | exact gG.at166 | exact gG.at213 | exact gG.at214 | exact gG.now.at | exact gG.ahd.at) rfl (by first | exact gG.r0 | exact g1.r0) (by decide) ?_
      refine gx_callV0 hC dX6_pass_22 (c_X1_push _ _ gG hs hs5 (getS_0.symm.trans hW.ct) hW.c20) kY_X1_push kV_X1_push ml_X6_40 (by first | exact gG.at0 | exact gG.at47 | exact gG.at48 | exact gG.at164 | exact gG.at165 | exact gG.at166 | exact gG.at213 | exact gG.at214 | exact gG.now.at | exact gG.ahd.at) rfl (by decide) rfl rfl rfl (by first | exact Nat.le_of_ble_eq_true rfl | (simp [Value.category, isR_cat kv_isR, isR_cat aref_isR]; done)) (Nat.le_refl _) (Nat.le_refl _) ?_
      refine gx_aload_n (i := 0) hC dX6_pass_25 rfl rfl (by first | exact Or.inr ⟨_, rfl⟩ | exact Or.inl rfl | exact kv_isR | exact aref_isR) ?_
      refine gx_getR hC dX6_pass_26 fl_X6_10 (by first | exact gG.at0 | exact gG.at47 | exact gG.at48 | exact gG.at164 | exact gG.at165 | exact gG.at166 | exact gG.at213 | exact gG.at214 | exact gG.now.at | exact gG.ahd.at) rfl (by first | exact gG.r0 | exact g1.r0) (by decide) ?_
      refine gx_iload_n (i := 1) hC dX6_pass_29 rfl rfl ?_
      refine gx_callV1 hC dX6_pass_30 (e_X4_passMinutes g1.now hW1 _) kY_X4_passMinutes kV_X4_passMinutes ml_X6_92 (by first | exact gG.at0 | exact gG.at47 | exact gG.at48 | exact gG.at164 | exact gG.at165 | exact gG.at166 | exact gG.at213 | exact gG.at214 | exact gG.now.at | exact gG.ahd.at) rfl (by decide) rfl rfl rfl (by first | exact Nat.le_of_ble_eq_true rfl | (simp [Value.category, isR_cat kv_isR, isR_cat aref_isR]; done)) (Nat.le_refl _) (Nat.le_refl _) ?_
      exact gx_iret hC hQ dX6_pass_33 (by rw [pM_now gG]) (by rw [pM_now gG]) rfl
    · exact absurd h2 c_8
set_option maxHeartbeats 4000000 in
set_option maxRecDepth 20000 in
theorem c0_X6_pass (l : Launch) (z : hZt) {n : Nat} {M : hMem} {R : hRef} (gG : GS n R) {x : Int32} (h : x < 1 ∨ 99 < x) : hCt l z m_X6_pass [.ref (z.1 + 0), .int x] n M R n (some (.int (-2))) M R := by
  refine hs_start [some (.ref (z.1 + 0)), some (.int x)] (by decide +kernel) rfl (by intro u hu; simp at hu; rcases hu with rfl | rfl <;> first | rfl | exact isR_cat kv_isR | exact isR_cat aref_isR) (Nat.le_of_ble_eq_true rfl) (Nat.le_refl _) (fun X hlX hN hC hQ => ?_)
  dsimp only at hC hQ
  refine gx_iload_n (i := 1) hC dX6_pass_0 rfl rfl ?_
  refine gx_iconst (v := 1) hC dX6_pass_1 ic_1 ?_
  refine gx_icmp_lt (tgt := 11) hC dX6_pass_2 (by decide) (fun c_2 => ?_) (fun c_2 => ?_)
  · refine gx_bipush (v := -2) hC dX6_pass_11 bp_m2 ?_
    exact gx_iret hC hQ dX6_pass_13 (rfl) (rfl) rfl
  · refine gx_iload_n (i := 1) hC dX6_pass_5 rfl rfl ?_
    refine gx_bipush (v := 99) hC dX6_pass_6 bp_99 ?_
    refine gx_icmp_le (tgt := 14) hC dX6_pass_8 (by decide) (fun c_8 => ?_) (fun c_8 => ?_)
    · exact absurd h (fun q => q.elim c_2 (Int32.not_lt.mpr c_8))
    · refine gx_bipush (v := -2) hC dX6_pass_11 bp_m2 ?_
      exact gx_iret hC hQ dX6_pass_13 (rfl) (rfl) rfl
