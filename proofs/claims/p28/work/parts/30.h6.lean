theorem e_X5_findFault {l : Launch} {z : hZt} {n : Nat} {M : hMem} {R : hRef} (gG : GS n R) : hCt l z m_X5_findFault [.ref (z.1 + 213)] n M R n (some (.int (sFF (M 214) (M 213) 3))) (putRow M 213 (sFF (M 214) (M 213))) R := by
  have h := c_X5_findFault l z (M := M) (R := R) gG (s := M 213)
  rw [putRow_get] at h
  exact h
theorem e_X5_restart {l : Launch} {z : hZt} {n : Nat} {M : hMem} {R : hRef} (gG : GS n R) : hCt l z m_X5_restart [.ref (z.1 + 213)] n M R n none (putRow M 213 (sRes (M 213))) R := by
  have h := c_X5_restart l z (M := M) (R := R) gG (s := M 213)
  rw [putRow_get] at h
  exact h
theorem e_X5_readStrip {l : Launch} {z : hZt} {n : Nat} {M : hMem} {R : hRef} (gG : GS n R) : hCt l z m_X5_readStrip [.ref (z.1 + 213)] n M R n (some (.int (b2 (sRd (M 214) (M 213)).1))) (putRow M 213 (sRd (M 214) (M 213)).2) R := by
  have h := c_X5_readStrip l z (M := M) (R := R) gG (s := M 213)
  rw [putRow_get] at h
  exact h
set_option maxHeartbeats 4000000 in
set_option maxRecDepth 20000 in
theorem c_X6_append (l : Launch) (z : hZt) {n : Nat} {M : hMem} {R : hRef} (gG : GS n R) {ln q : Nat} (hln : M 213 1 = nI ln) (hl : ln < 80) (h1 : 32 ≤ q) (h2 : q ≤ 126) : hCt l z m_X6_append [.ref (z.1 + 0), .int (nI q)] n M R n (some (.int (nI (ln + 1)))) (aM M ln (nI q)) R := by
  refine hs_start [some (.ref (z.1 + 0)), some (.int (nI q))] (by decide +kernel) rfl (by intro u hu; simp at hu; rcases hu with rfl | rfl <;> first | rfl | exact isR_cat kv_isR | exact isR_cat aref_isR) (Nat.le_of_ble_eq_true rfl) (Nat.le_refl _) (fun X hlX hN hC hQ => ?_)
  dsimp only at hC hQ
  refine gx_iload_n (i := 1) hC dX6_append_0 rfl rfl ?_
  refine gx_bipush (v := 32) hC dX6_append_1 bp_32 ?_
  refine gx_icmp_lt (tgt := 12) hC dX6_append_3 (by decide) (fun c_3 => ?_) (fun c_3 => ?_)
  · exact absurd c_3 (nI_nlt (a := q) (b := 32) h1 (by omega))
  · refine gx_iload_n (i := 1) hC dX6_append_6 rfl rfl ?_
    refine gx_bipush (v := 126) hC dX6_append_7 bp_126 ?_
    refine gx_icmp_le (tgt := 15) hC dX6_append_9 (by decide) (fun c_9 => ?_) (fun c_9 => ?_)
    · refine gx_aload_n (i := 0) hC dX6_append_15 rfl rfl (by first | exact Or.inr ⟨_, rfl⟩ | exact Or.inl rfl | exact kv_isR | exact aref_isR) ?_
      refine gx_getR hC dX6_append_16 fl_X6_36 (by first | exact gG.at0 | exact gG.at47 | exact gG.at48 | exact gG.at164 | exact gG.at165 | exact gG.at166 | exact gG.at213 | exact gG.at214 | exact gG.now.at | exact gG.ahd.at) rfl (gG.r4) (by decide) ?_
      refine gx_iload_n (i := 1) hC dX6_append_19 rfl rfl ?_
      refine gx_i2c hC dX6_append_20 ((sb_byte q (by omega)).2.1) ?_
      refine gx_callV1 hC dX6_append_21 (c_X5_add _ _ gG hln hl ⟨q, by omega, rfl⟩) kY_X5_add kV_X5_add ml_X6_201 (by first | exact gG.at0 | exact gG.at47 | exact gG.at48 | exact gG.at164 | exact gG.at165 | exact gG.at166 | exact gG.at213 | exact gG.at214 | exact gG.now.at | exact gG.ahd.at) rfl (by decide) rfl rfl rfl (by first | exact Nat.le_of_ble_eq_true rfl | (simp [Value.category, isR_cat kv_isR, isR_cat aref_isR]; done)) (Nat.le_refl _) (Nat.le_refl _) ?_
      refine gx_if_eq (tgt := 37) hC dX6_append_24 (by decide) (fun c_24 => ?_) (fun c_24 => ?_)
      · exact absurd c_24 (by decide)
      · refine gx_aload_n (i := 0) hC dX6_append_27 rfl rfl (by first | exact Or.inr ⟨_, rfl⟩ | exact Or.inl rfl | exact kv_isR | exact aref_isR) ?_
        refine gx_getR hC dX6_append_28 fl_X6_36 (by first | exact gG.at0 | exact gG.at47 | exact gG.at48 | exact gG.at164 | exact gG.at165 | exact gG.at166 | exact gG.at213 | exact gG.at214 | exact gG.now.at | exact gG.ahd.at) rfl (gG.r4) (by decide) ?_
        refine gx_getI hC dX6_append_31 fl_X6_205 (by first | exact gG.at0 | exact gG.at47 | exact gG.at48 | exact gG.at164 | exact gG.at165 | exact gG.at166 | exact gG.at213 | exact gG.at214 | exact gG.now.at | exact gG.ahd.at) (by decide) (show _ = nI (ln + 1) from up2_same) ?_
        refine gx_goto (tgt := 39) hC dX6_append_34 (by decide) ?_
        exact gx_iret hC hQ dX6_append_39 (rfl) (rfl) rfl
    · exact absurd (nI_le (a := q) (b := 126) h2 (by decide)) c_9
set_option maxHeartbeats 4000000 in
set_option maxRecDepth 20000 in
theorem c1_X6_append (l : Launch) (z : hZt) {n : Nat} {M : hMem} {R : hRef} (gG : GS n R) {q : Nat} (hln : M 213 1 = nI 80) (h1 : 32 ≤ q) (h2 : q ≤ 126) : hCt l z m_X6_append [.ref (z.1 + 0), .int (nI q)] n M R n (some (.int (-4))) M R := by
  refine hs_start [some (.ref (z.1 + 0)), some (.int (nI q))] (by decide +kernel) rfl (by intro u hu; simp at hu; rcases hu with rfl | rfl <;> first | rfl | exact isR_cat kv_isR | exact isR_cat aref_isR) (Nat.le_of_ble_eq_true rfl) (Nat.le_refl _) (fun X hlX hN hC hQ => ?_)
  dsimp only at hC hQ
  refine gx_iload_n (i := 1) hC dX6_append_0 rfl rfl ?_
  refine gx_bipush (v := 32) hC dX6_append_1 bp_32 ?_
  refine gx_icmp_lt (tgt := 12) hC dX6_append_3 (by decide) (fun c_3 => ?_) (fun c_3 => ?_)
  · exact absurd c_3 (nI_nlt (a := q) (b := 32) h1 (by omega))
  · refine gx_iload_n (i := 1) hC dX6_append_6 rfl rfl ?_
    refine gx_bipush (v := 126) hC dX6_append_7 bp_126 ?_
    refine gx_icmp_le (tgt := 15) hC dX6_append_9 (by decide) (fun c_9 => ?_) (fun c_9 => ?_)
    · refine gx_aload_n (i := 0) hC dX6_append_15 rfl rfl (by first | exact Or.inr ⟨_, rfl⟩ | exact Or.inl rfl | exact kv_isR | exact aref_isR) ?_
      refine gx_getR hC dX6_append_16 fl_X6_36 (by first | exact gG.at0 | exact gG.at47 | exact gG.at48 | exact gG.at164 | exact gG.at165 | exact gG.at166 | exact gG.at213 | exact gG.at214 | exact gG.now.at | exact gG.ahd.at) rfl (gG.r4) (by decide) ?_
      refine gx_iload_n (i := 1) hC dX6_append_19 rfl rfl ?_
      refine gx_i2c hC dX6_append_20 (rfl) ?_
      refine gx_callV1 hC dX6_append_21 (c0_X5_add _ _ gG hln _) kY_X5_add kV_X5_add ml_X6_201 (by first | exact gG.at0 | exact gG.at47 | exact gG.at48 | exact gG.at164 | exact gG.at165 | exact gG.at166 | exact gG.at213 | exact gG.at214 | exact gG.now.at | exact gG.ahd.at) rfl (by decide) rfl rfl rfl (by first | exact Nat.le_of_ble_eq_true rfl | (simp [Value.category, isR_cat kv_isR, isR_cat aref_isR]; done)) (Nat.le_refl _) (Nat.le_refl _) ?_
      refine gx_if_eq (tgt := 37) hC dX6_append_24 (by decide) (fun c_24 => ?_) (fun c_24 => ?_)
      · refine gx_bipush (v := -4) hC dX6_append_37 bp_m4 ?_
        exact gx_iret hC hQ dX6_append_39 (rfl) (rfl) rfl
      · exact absurd rfl c_24
    · exact absurd (nI_le (a := q) (b := 126) h2 (by decide)) c_9
set_option maxHeartbeats 4000000 in
set_option maxRecDepth 20000 in
theorem c0_X6_append (l : Launch) (z : hZt) {n : Nat} {M : hMem} {R : hRef} (gG : GS n R) {x : Int32} (h : x < 32 ∨ 126 < x) : hCt l z m_X6_append [.ref (z.1 + 0), .int x] n M R n (some (.int (-2))) M R := by
  refine hs_start [some (.ref (z.1 + 0)), some (.int x)] (by decide +kernel) rfl (by intro u hu; simp at hu; rcases hu with rfl | rfl <;> first | rfl | exact isR_cat kv_isR | exact isR_cat aref_isR) (Nat.le_of_ble_eq_true rfl) (Nat.le_refl _) (fun X hlX hN hC hQ => ?_)
  dsimp only at hC hQ
  refine gx_iload_n (i := 1) hC dX6_append_0 rfl rfl ?_
  refine gx_bipush (v := 32) hC dX6_append_1 bp_32 ?_
  refine gx_icmp_lt (tgt := 12) hC dX6_append_3 (by decide) (fun c_3 => ?_) (fun c_3 => ?_)
  · refine gx_bipush (v := -2) hC dX6_append_12 bp_m2 ?_
    exact gx_iret hC hQ dX6_append_14 (rfl) (rfl) rfl
  · refine gx_iload_n (i := 1) hC dX6_append_6 rfl rfl ?_
    refine gx_bipush (v := 126) hC dX6_append_7 bp_126 ?_
    refine gx_icmp_le (tgt := 15) hC dX6_append_9 (by decide) (fun c_9 => ?_) (fun c_9 => ?_)
    · exact absurd h (fun q => q.elim c_3 (Int32.not_lt.mpr c_9))
    · refine gx_bipush (v := -2) hC dX6_append_12 bp_m2 ?_
      exact gx_iret hC hQ dX6_append_14 (rfl) (rfl) rfl
set_option maxHeartbeats 4000000 in
set_option maxRecDepth 20000 in
theorem c_X6_clearText (l : Launch) (z : hZt) {n : Nat} {M : hMem} {R : hRef} (gG : GS n R) : hCt l z m_X6_clearText [.ref (z.1 + 0)] n M R n (some (.int (M 213 1))) (up2 M 213 1 0) R := by
  refine hs_start [some (.ref (z.1 + 0)), none] (by decide +kernel) rfl (by intro u hu; simp at hu; subst hu <;> first | rfl | exact isR_cat kv_isR | exact isR_cat aref_isR) (Nat.le_of_ble_eq_true rfl) (Nat.le_refl _) (fun X hlX hN hC hQ => ?_)
  dsimp only at hC hQ
  refine gx_aload_n (i := 0) hC dX6_clearText_0 rfl rfl (by first | exact Or.inr ⟨_, rfl⟩ | exact Or.inl rfl | exact kv_isR | exact aref_isR) ?_
  refine gx_getR hC dX6_clearText_1 fl_X6_36 (by first | exact gG.at0 | exact gG.at47 | exact gG.at48 | exact gG.at164 | exact gG.at165 | exact gG.at166 | exact gG.at213 | exact gG.at214 | exact gG.now.at | exact gG.ahd.at) rfl (gG.r4) (by decide) ?_
  refine gx_getI hC dX6_clearText_4 fl_X6_205 (by first | exact gG.at0 | exact gG.at47 | exact gG.at48 | exact gG.at164 | exact gG.at165 | exact gG.at166 | exact gG.at213 | exact gG.at214 | exact gG.now.at | exact gG.ahd.at) (by decide) (rfl) ?_
  refine gx_istore_n (i := 1) (L' := [_, _]) hC dX6_clearText_7 rfl (Nat.le_of_ble_eq_true rfl) rfl (fun u h9 => by first | exact Or.inl rfl | (cases h9; done) | (right; cases h9; first | rfl | exact isR_cat aref_isR | exact isR_cat kv_isR)) ?_
  refine gx_aload_n (i := 0) hC dX6_clearText_8 rfl rfl (by first | exact Or.inr ⟨_, rfl⟩ | exact Or.inl rfl | exact kv_isR | exact aref_isR) ?_
  refine gx_getR hC dX6_clearText_9 fl_X6_36 (by first | exact gG.at0 | exact gG.at47 | exact gG.at48 | exact gG.at164 | exact gG.at165 | exact gG.at166 | exact gG.at213 | exact gG.at214 | exact gG.now.at | exact gG.ahd.at) rfl (gG.r4) (by decide) ?_
  refine gx_iconst (v := 0) hC dX6_clearText_12 ic_0 ?_
  refine gx_putI hC dX6_clearText_13 fl_X6_205 (by first | exact gG.at0 | exact gG.at47 | exact gG.at48 | exact gG.at164 | exact gG.at165 | exact gG.at166 | exact gG.at213 | exact gG.at214 | exact gG.now.at | exact gG.ahd.at) fn_4_1 rfl (rfl) ?_
  refine gx_iload_n (i := 1) hC dX6_clearText_16 rfl rfl ?_
  exact gx_iret hC hQ dX6_clearText_17 (rfl) (rfl) rfl
set_option maxHeartbeats 4000000 in
set_option maxRecDepth 20000 in
theorem c_X6_faultPosition (l : Launch) (z : hZt) {n : Nat} {M : hMem} {R : hRef} (gG : GS n R) : hCt l z m_X6_faultPosition [.ref (z.1 + 0)] n M R n (some (.int (sFF (M 214) (M 213) 3))) (putRow M 213 (sFF (M 214) (M 213))) R := by
  refine hs_start [some (.ref (z.1 + 0))] (by decide +kernel) rfl (by intro u hu; simp at hu; subst hu <;> first | rfl | exact isR_cat kv_isR | exact isR_cat aref_isR) (Nat.le_of_ble_eq_true rfl) (Nat.le_refl _) (fun X hlX hN hC hQ => ?_)
  dsimp only at hC hQ
  refine gx_aload_n (i := 0) hC dX6_faultPosition_0 rfl rfl (by first | exact Or.inr ⟨_, rfl⟩ | exact Or.inl rfl | exact kv_isR | exact aref_isR) ?_
  refine gx_getR hC dX6_faultPosition_1 fl_X6_36 (by first | exact gG.at0 | exact gG.at47 | exact gG.at48 | exact gG.at164 | exact gG.at165 | exact gG.at166 | exact gG.at213 | exact gG.at214 | exact gG.now.at | exact gG.ahd.at) rfl (gG.r4) (by decide) ?_
  refine gx_callV1 hC dX6_faultPosition_4 (e_X5_findFault gG) kY_X5_findFault kV_X5_findFault ml_X6_208 (by first | exact gG.at0 | exact gG.at47 | exact gG.at48 | exact gG.at164 | exact gG.at165 | exact gG.at166 | exact gG.at213 | exact gG.at214 | exact gG.now.at | exact gG.ahd.at) rfl (by decide) rfl rfl rfl (by first | exact Nat.le_of_ble_eq_true rfl | (simp [Value.category, isR_cat kv_isR, isR_cat aref_isR]; done)) (Nat.le_refl _) (Nat.le_refl _) ?_
  exact gx_iret hC hQ dX6_faultPosition_7 (rfl) (rfl) rfl
set_option maxHeartbeats 4000000 in
set_option maxRecDepth 20000 in
theorem c_X6_undo (l : Launch) (z : hZt) {n : Nat} {M : hMem} {R : hRef} (gG : GS n R) {s c : Nat} (hs : M 47 1 = nI s) (hs0 : 0 < s) (hs5 : s ≤ 5) (hc : Cnt M (R 48 (s - 1)) c) : hCt l z m_X6_undo [.ref (z.1 + 0)] n M R n (some (.int (nI (s - 1)))) (oM M R s c) R := by
  refine hs_start [some (.ref (z.1 + 0))] (by decide +kernel) rfl (by intro u hu; simp at hu; subst hu <;> first | rfl | exact isR_cat kv_isR | exact isR_cat aref_isR) (Nat.le_of_ble_eq_true rfl) (Nat.le_refl _) (fun X hlX hN hC hQ => ?_)
  dsimp only at hC hQ
  refine gx_aload_n (i := 0) hC dX6_undo_0 rfl rfl (by first | exact Or.inr ⟨_, rfl⟩ | exact Or.inl rfl | exact kv_isR | exact aref_isR) ?_
  refine gx_getR hC dX6_undo_1 fl_X6_22 (by first | exact gG.at0 | exact gG.at47 | exact gG.at48 | exact gG.at164 | exact gG.at165 | exact gG.at166 | exact gG.at213 | exact gG.at214 | exact gG.now.at | exact gG.ahd.at) rfl (gG.r2) (by decide) ?_
  refine gx_aload_n (i := 0) hC dX6_undo_4 rfl rfl (by first | exact Or.inr ⟨_, rfl⟩ | exact Or.inl rfl | exact kv_isR | exact aref_isR) ?_
  refine gx_getR hC dX6_undo_5 fl_X6_10 (by first | exact gG.at0 | exact gG.at47 | exact gG.at48 | exact gG.at164 | exact gG.at165 | exact gG.at166 | exact gG.at213 | exact gG.at214 | exact gG.now.at | exact gG.ahd.at) rfl (gG.r0) (by decide) ?_
  refine gx_callV1 hC dX6_undo_8 (c_X1_popInto _ _ gG hs hs0 hs5 hc) kY_X1_popInto kV_X1_popInto ml_X6_220 (by first | exact gG.at0 | exact gG.at47 | exact gG.at48 | exact gG.at164 | exact gG.at165 | exact gG.at166 | exact gG.at213 | exact gG.at214 | exact gG.now.at | exact gG.ahd.at) rfl (by decide) rfl rfl rfl (by first | exact Nat.le_of_ble_eq_true rfl | (simp [Value.category, isR_cat kv_isR, isR_cat aref_isR]; done)) (Nat.le_refl _) (Nat.le_refl _) ?_
  refine gx_if_eq (tgt := 24) hC dX6_undo_11 (by decide) (fun c_11 => ?_) (fun c_11 => ?_)
  · exact absurd c_11 (by decide)
  · refine gx_aload_n (i := 0) hC dX6_undo_14 rfl rfl (by first | exact Or.inr ⟨_, rfl⟩ | exact Or.inl rfl | exact kv_isR | exact aref_isR) ?_
    refine gx_getR hC dX6_undo_15 fl_X6_22 (by first | exact gG.at0 | exact gG.at47 | exact gG.at48 | exact gG.at164 | exact gG.at165 | exact gG.at166 | exact gG.at213 | exact gG.at214 | exact gG.now.at | exact gG.ahd.at) rfl (gG.r2) (by decide) ?_
    refine gx_getI hC dX6_undo_18 fl_X6_148 (by first | exact gG.at0 | exact gG.at47 | exact gG.at48 | exact gG.at164 | exact gG.at165 | exact gG.at166 | exact gG.at213 | exact gG.at214 | exact gG.now.at | exact gG.ahd.at) (by decide) (show _ = nI (s - 1) from (pSo (Or.inr (by decide))).trans up2_same) ?_
    refine gx_goto (tgt := 26) hC dX6_undo_21 (by decide) ?_
    exact gx_iret hC hQ dX6_undo_26 (rfl) (rfl) rfl
set_option maxHeartbeats 4000000 in
set_option maxRecDepth 20000 in
theorem c0_X6_undo (l : Launch) (z : hZt) {n : Nat} {M : hMem} {R : hRef} (gG : GS n R) (hs : M 47 1 = 0) : hCt l z m_X6_undo [.ref (z.1 + 0)] n M R n (some (.int (-3))) M R := by
  refine hs_start [some (.ref (z.1 + 0))] (by decide +kernel) rfl (by intro u hu; simp at hu; subst hu <;> first | rfl | exact isR_cat kv_isR | exact isR_cat aref_isR) (Nat.le_of_ble_eq_true rfl) (Nat.le_refl _) (fun X hlX hN hC hQ => ?_)
  dsimp only at hC hQ
  refine gx_aload_n (i := 0) hC dX6_undo_0 rfl rfl (by first | exact Or.inr ⟨_, rfl⟩ | exact Or.inl rfl | exact kv_isR | exact aref_isR) ?_
  refine gx_getR hC dX6_undo_1 fl_X6_22 (by first | exact gG.at0 | exact gG.at47 | exact gG.at48 | exact gG.at164 | exact gG.at165 | exact gG.at166 | exact gG.at213 | exact gG.at214 | exact gG.now.at | exact gG.ahd.at) rfl (gG.r2) (by decide) ?_
  refine gx_aload_n (i := 0) hC dX6_undo_4 rfl rfl (by first | exact Or.inr ⟨_, rfl⟩ | exact Or.inl rfl | exact kv_isR | exact aref_isR) ?_
  refine gx_getR hC dX6_undo_5 fl_X6_10 (by first | exact gG.at0 | exact gG.at47 | exact gG.at48 | exact gG.at164 | exact gG.at165 | exact gG.at166 | exact gG.at213 | exact gG.at214 | exact gG.now.at | exact gG.ahd.at) rfl (gG.r0) (by decide) ?_
  refine gx_callV1 hC dX6_undo_8 (c0_X1_popInto _ _ gG hs) kY_X1_popInto kV_X1_popInto ml_X6_220 (by first | exact gG.at0 | exact gG.at47 | exact gG.at48 | exact gG.at164 | exact gG.at165 | exact gG.at166 | exact gG.at213 | exact gG.at214 | exact gG.now.at | exact gG.ahd.at) rfl (by decide) rfl rfl rfl (by first | exact Nat.le_of_ble_eq_true rfl | (simp [Value.category, isR_cat kv_isR, isR_cat aref_isR]; done)) (Nat.le_refl _) (Nat.le_refl _) ?_
  refine gx_if_eq (tgt := 24) hC dX6_undo_11 (by decide) (fun c_11 => ?_) (fun c_11 => ?_)
  · refine gx_bipush (v := -3) hC dX6_undo_24 bp_m3 ?_
    exact gx_iret hC hQ dX6_undo_26 (rfl) (rfl) rfl
  · exact absurd rfl c_11
set_option maxHeartbeats 4000000 in
set_option maxRecDepth 20000 in
theorem c_X6_keep (l : Launch) (z : hZt) {n : Nat} {M : hMem} {R : hRef} (gG : GS n R) {c : Nat} (hc : Cnt M 1 c) {x : Int32} (hx : bSl x = true) : hCt l z m_X6_keep [.ref (z.1 + 0), .int x] n M R n (some (.int (M 1 9))) (kM M x c) R := by
  refine hs_start [some (.ref (z.1 + 0)), some (.int x)] (by decide +kernel) rfl (by intro u hu; simp at hu; rcases hu with rfl | rfl <;> first | rfl | exact isR_cat kv_isR | exact isR_cat aref_isR) (Nat.le_of_ble_eq_true rfl) (Nat.le_refl _) (fun X hlX hN hC hQ => ?_)
  dsimp only at hC hQ
  refine gx_aload_n (i := 0) hC dX6_keep_0 rfl rfl (by first | exact Or.inr ⟨_, rfl⟩ | exact Or.inl rfl | exact kv_isR | exact aref_isR) ?_
  refine gx_getR hC dX6_keep_1 fl_X6_29 (by first | exact gG.at0 | exact gG.at47 | exact gG.at48 | exact gG.at164 | exact gG.at165 | exact gG.at166 | exact gG.at213 | exact gG.at214 | exact gG.now.at | exact gG.ahd.at) rfl (gG.r3) (by decide) ?_
  refine gx_iload_n (i := 1) hC dX6_keep_4 rfl rfl ?_
  refine gx_aload_n (i := 0) hC dX6_keep_5 rfl rfl (by first | exact Or.inr ⟨_, rfl⟩ | exact Or.inl rfl | exact kv_isR | exact aref_isR) ?_
  refine gx_getR hC dX6_keep_6 fl_X6_10 (by first | exact gG.at0 | exact gG.at47 | exact gG.at48 | exact gG.at164 | exact gG.at165 | exact gG.at166 | exact gG.at213 | exact gG.at214 | exact gG.now.at | exact gG.ahd.at) rfl (gG.r0) (by decide) ?_
  refine gx_callV1 hC dX6_keep_9 (c_X3_put _ _ gG hc hx) kY_X3_put kV_X3_put ml_X6_224 (by first | exact gG.at0 | exact gG.at47 | exact gG.at48 | exact gG.at164 | exact gG.at165 | exact gG.at166 | exact gG.at213 | exact gG.at214 | exact gG.now.at | exact gG.ahd.at) rfl (by decide) rfl rfl rfl (by first | exact Nat.le_of_ble_eq_true rfl | (simp [Value.category, isR_cat kv_isR, isR_cat aref_isR]; done)) (Nat.le_refl _) (Nat.le_refl _) ?_
  refine gx_if_eq (tgt := 25) hC dX6_keep_12 (by decide) (fun c_12 => ?_) (fun c_12 => ?_)
  · exact absurd c_12 (by decide)
  · refine gx_aload_n (i := 0) hC dX6_keep_15 rfl rfl (by first | exact Or.inr ⟨_, rfl⟩ | exact Or.inl rfl | exact kv_isR | exact aref_isR) ?_
    refine gx_getR hC dX6_keep_16 fl_X6_10 (by first | exact gG.at0 | exact gG.at47 | exact gG.at48 | exact gG.at164 | exact gG.at165 | exact gG.at166 | exact gG.at213 | exact gG.at214 | exact gG.now.at | exact gG.ahd.at) rfl (gG.r0) (by decide) ?_
    refine gx_getI hC dX6_keep_19 fl_X6_136 (by first | exact gG.at0 | exact gG.at47 | exact gG.at48 | exact gG.at164 | exact gG.at165 | exact gG.at166 | exact gG.at213 | exact gG.at214 | exact gG.now.at | exact gG.ahd.at) (by decide) (show _ = M 1 9 from (up2_off (by omega)).trans (pSo (Or.inl (by have := (slB_R gG hx).2.2; omega)))) ?_
    refine gx_goto (tgt := 26) hC dX6_keep_22 (by decide) ?_
    exact gx_iret hC hQ dX6_keep_26 (rfl) (rfl) rfl
set_option maxHeartbeats 4000000 in
set_option maxRecDepth 20000 in
theorem c0_X6_keep (l : Launch) (z : hZt) {n : Nat} {M : hMem} {R : hRef} (gG : GS n R) {x : Int32} (hx : bSl x = false) : hCt l z m_X6_keep [.ref (z.1 + 0), .int x] n M R n (some (.int (-1))) M R := by
  refine hs_start [some (.ref (z.1 + 0)), some (.int x)] (by decide +kernel) rfl (by intro u hu; simp at hu; rcases hu with rfl | rfl <;> first | rfl | exact isR_cat kv_isR | exact isR_cat aref_isR) (Nat.le_of_ble_eq_true rfl) (Nat.le_refl _) (fun X hlX hN hC hQ => ?_)
  dsimp only at hC hQ
  refine gx_aload_n (i := 0) hC dX6_keep_0 rfl rfl (by first | exact Or.inr ⟨_, rfl⟩ | exact Or.inl rfl | exact kv_isR | exact aref_isR) ?_
  refine gx_getR hC dX6_keep_1 fl_X6_29 (by first | exact gG.at0 | exact gG.at47 | exact gG.at48 | exact gG.at164 | exact gG.at165 | exact gG.at166 | exact gG.at213 | exact gG.at214 | exact gG.now.at | exact gG.ahd.at) rfl (gG.r3) (by decide) ?_
  refine gx_iload_n (i := 1) hC dX6_keep_4 rfl rfl ?_
  refine gx_aload_n (i := 0) hC dX6_keep_5 rfl rfl (by first | exact Or.inr ⟨_, rfl⟩ | exact Or.inl rfl | exact kv_isR | exact aref_isR) ?_
  refine gx_getR hC dX6_keep_6 fl_X6_10 (by first | exact gG.at0 | exact gG.at47 | exact gG.at48 | exact gG.at164 | exact gG.at165 | exact gG.at166 | exact gG.at213 | exact gG.at214 | exact gG.now.at | exact gG.ahd.at) rfl (gG.r0) (by decide) ?_
  refine gx_callV1 hC dX6_keep_9 (c0_X3_put _ _ gG hx) kY_X3_put kV_X3_put ml_X6_224 (by first | exact gG.at0 | exact gG.at47 | exact gG.at48 | exact gG.at164 | exact gG.at165 | exact gG.at166 | exact gG.at213 | exact gG.at214 | exact gG.now.at | exact gG.ahd.at) rfl (by decide) rfl rfl rfl (by first | exact Nat.le_of_ble_eq_true rfl | (simp [Value.category, isR_cat kv_isR, isR_cat aref_isR]; done)) (Nat.le_refl _) (Nat.le_refl _) ?_
  refine gx_if_eq (tgt := 25) hC dX6_keep_12 (by decide) (fun c_12 => ?_) (fun c_12 => ?_)
  · refine gx_iconst (v := -1) hC dX6_keep_25 ic_m1 ?_
    exact gx_iret hC hQ dX6_keep_26 (rfl) (rfl) rfl
  · exact absurd rfl c_12
def vM (M : hMem) (R : hRef) (s c c2 : Nat) (x : Int32) : hMem := putS (pM M R s c) 1 (sCopy (getS M 1) (getS M (slB x)) c2)
theorem pM_slot {n : Nat} {M : hMem} {R : hRef} {s c o : Nat} (gG : GS n R) (h : 164 ≤ o) : getS (pM M R s c) o = getS M o := by
  funext i k
  unfold getS
  split
  · exact pM_hi gG (by omega)
  · rfl
theorem bSl_of {x : Int32} (h : bSl x = true) : 0 ≤ x ∧ x < 2 := by
  have h := of_decide_eq_true h
  exact h
set_option maxHeartbeats 4000000 in
set_option maxRecDepth 20000 in
theorem c_X6_restore (l : Launch) (z : hZt) {n : Nat} {M : hMem} {R : hRef} (gG : GS n R) {lv c : Nat} (hW : SW (getS M 1) lv c) {s : Nat} (hs : M 47 1 = nI s) (hs5 : s ≤ 5) {c2 : Nat} {x : Int32} (hx : bSl x = true) (hf : ¬ M 166 x.toNatClampNeg = 0) (hc2 : Cnt M (slB x) c2) : hCt l z m_X6_restore [.ref (z.1 + 0), .int x] n M R n (some (.int (M (slB x) 9))) (vM M R s c c2 x) (pR R s) := by
  refine hs_start [some (.ref (z.1 + 0)), some (.int x), none] (by decide +kernel) rfl (by intro u hu; simp at hu; rcases hu with rfl | rfl <;> first | rfl | exact isR_cat kv_isR | exact isR_cat aref_isR) (Nat.le_of_ble_eq_true rfl) (Nat.le_refl _) (fun X hlX hN hC hQ => ?_)
  dsimp only at hC hQ
  have g1 := GSpR gG s
  have hW1 : SW (getS (pM M R s c) 1) lv c := by rw [pM_now gG]; exact hW
  have hx0 := bSl_of hx
  refine gx_iload_n (i := 1) hC dX6_restore_0 rfl rfl ?_
  refine gx_if_lt (tgt := 9) hC dX6_restore_1 (by decide) (fun c_1 => ?_) (fun c_1 => ?_)
  · exact absurd c_1 (Int32.not_lt.mpr hx0.1)
  · refine gx_iload_n (i := 1) hC dX6_restore_4 rfl rfl ?_
    refine gx_iconst (v := 2) hC dX6_restore_5 ic_2 ?_
    refine gx_icmp_lt (tgt := 11) hC dX6_restore_6 (by decide) (fun c_6 => ?_) (fun c_6 => ?_)
    · refine gx_aload_n (i := 0) hC dX6_restore_11 rfl rfl (by first | exact Or.inr ⟨_, rfl⟩ | exact rv_isR) ?_
      refine gx_getR hC dX6_restore_12 fl_X6_29 (by first | exact gG.at0 | exact gG.at47 | exact gG.at48 | exact gG.at164 | exact gG.at165 | exact gG.at166 | exact gG.at213 | exact gG.at214 | exact gG.now.at | exact gG.ahd.at) rfl (by first | exact gG.r3 | exact g1.r3) (by decide) ?_
      refine gx_iload_n (i := 1) hC dX6_restore_15 rfl rfl ?_
      refine gx_callV1 hC dX6_restore_16 (c_X3_get _ _ gG _) kY_X3_get kV_X3_get ml_X6_228 (by first | exact gG.at0 | exact gG.at47 | exact gG.at48 | exact gG.at164 | exact gG.at165 | exact gG.at166 | exact gG.at213 | exact gG.at214 | exact gG.now.at | exact gG.ahd.at) rfl (by decide) rfl rfl rfl (by first | exact Nat.le_of_ble_eq_true rfl | (simp [Value.category, isR_cat kv_isR, isR_cat aref_isR, isR_cat rv_isR]; done)) (Nat.le_refl _) (Nat.le_refl _) ?_
      rw [if_pos ⟨hx, hf⟩, rv_ref (by have := (slB_R gG hx).2.2; omega)]
      refine gx_astore_n (i := 2) (L' := [_, _, _]) hC dX6_restore_19 rfl (Nat.le_of_ble_eq_true rfl) rfl (fun u h9 => by first | exact Or.inl rfl | (right; cases h9; first | rfl | exact isR_cat rv_isR)) (by first | exact Or.inr ⟨_, rfl⟩ | exact rv_isR) ?_
      refine gx_aload_n (i := 2) hC dX6_restore_20 rfl rfl (by first | exact Or.inr ⟨_, rfl⟩ | exact rv_isR) ?_
      refine gx_ifnonnull_ref (tgt := 27) hC dX6_restore_21 (by decide) ?_
      refine gx_aload_n (i := 0) hC dX6_restore_27 rfl rfl (by first | exact Or.inr ⟨_, rfl⟩ | exact rv_isR) ?_
      refine gx_getR hC dX6_restore_28 fl_X6_22 (by first | exact gG.at0 | exact gG.at47 | exact gG.at48 | exact gG.at164 | exact gG.at165 | exact gG.at166 | exact gG.at213 | exact gG.at214 | exact gG.now.at | exact gG.ahd.at) rfl (by first | exact gG.r2 | exact g1.r2) (by decide) ?_
      refine gx_aload_n (i := 0) hC dX6_restore_31 rfl rfl (by first | exact Or.inr ⟨_, rfl⟩ | exact rv_isR) ?_
      refine gx_getR hC dX6_restore_32 fl_X6_10 (by first | exact gG.at0 | exact gG.at47 | exact gG.at48 | exact gG.at164 | exact gG.at165 | exact gG.at166 | exact gG.at213 | exact gG.at214 | exact gG.now.at | exact gG.ahd.at) rfl (by first | exact gG.r0 | exact g1.r0) (by decide) ?_
      refine gx_callV0 hC dX6_restore_35 (c_X1_push _ _ gG hs hs5 (getS_0.symm.trans hW.ct) hW.c20) kY_X1_push kV_X1_push ml_X6_40 (by first | exact gG.at0 | exact gG.at47 | exact gG.at48 | exact gG.at164 | exact gG.at165 | exact gG.at166 | exact gG.at213 | exact gG.at214 | exact gG.now.at | exact gG.ahd.at) rfl (by decide) rfl rfl rfl (by first | exact Nat.le_of_ble_eq_true rfl | (simp [Value.category, isR_cat kv_isR, isR_cat aref_isR, isR_cat rv_isR]; done)) (Nat.le_refl _) (Nat.le_refl _) ?_
      refine gx_aload_n (i := 0) hC dX6_restore_38 rfl rfl (by first | exact Or.inr ⟨_, rfl⟩ | exact rv_isR) ?_
      refine gx_getR hC dX6_restore_39 fl_X6_10 (by first | exact gG.at0 | exact gG.at47 | exact gG.at48 | exact gG.at164 | exact gG.at165 | exact gG.at166 | exact gG.at213 | exact gG.at214 | exact gG.now.at | exact gG.ahd.at) rfl (by first | exact gG.r0 | exact g1.r0) (by decide) ?_
      refine gx_aload_n (i := 2) hC dX6_restore_42 rfl rfl (by first | exact Or.inr ⟨_, rfl⟩ | exact rv_isR) ?_
      refine gx_callV0 hC dX6_restore_43 (d_X4_copyFrom g1.now (slB_R g1 hx).2.1 (Or.inr (by have := (slB_R gG hx).2.2; omega)) (show pM M R s c (slB x) 2 = nI c2 from (pM_hi gG (by have := (slB_R gG hx).2.2; omega)).trans hc2.1) hc2.2) kY_X4_copyFrom kV_X4_copyFrom ml_X6_188 (by first | exact gG.at0 | exact gG.at47 | exact gG.at48 | exact gG.at164 | exact gG.at165 | exact gG.at166 | exact gG.at213 | exact gG.at214 | exact gG.now.at | exact gG.ahd.at) rfl (by decide) rfl rfl rfl (by first | exact Nat.le_of_ble_eq_true rfl | (simp [Value.category, isR_cat kv_isR, isR_cat aref_isR, isR_cat rv_isR]; done)) (Nat.le_refl _) (Nat.le_refl _) ?_
      refine gx_aload_n (i := 0) hC dX6_restore_46 rfl rfl (by first | exact Or.inr ⟨_, rfl⟩ | exact rv_isR) ?_
      refine gx_getR hC dX6_restore_47 fl_X6_10 (by first | exact gG.at0 | exact gG.at47 | exact gG.at48 | exact gG.at164 | exact gG.at165 | exact gG.at166 | exact gG.at213 | exact gG.at214 | exact gG.now.at | exact gG.ahd.at) rfl (by first | exact gG.r0 | exact g1.r0) (by decide) ?_
      refine gx_getI hC dX6_restore_50 fl_X6_136 (by first | exact gG.at0 | exact gG.at47 | exact gG.at48 | exact gG.at164 | exact gG.at165 | exact gG.at166 | exact gG.at213 | exact gG.at214 | exact gG.now.at | exact gG.ahd.at) (by decide) (show _ = M (slB x) 9 from pS0.trans ((sCopy_0 (by decide)).trans (getS_0.trans (pM_hi gG (by have := (slB_R gG hx).2.2; omega))))) ?_
      exact gx_iret hC hQ dX6_restore_53 (rfl) (by unfold vM; rw [pM_now gG, pM_slot gG (by have := (slB_R gG hx).2.2; omega)]) rfl
    · exact absurd hx0.2 c_6
set_option maxHeartbeats 4000000 in
set_option maxRecDepth 20000 in
theorem c1_X6_restore (l : Launch) (z : hZt) {n : Nat} {M : hMem} {R : hRef} (gG : GS n R) {x : Int32} (hx : bSl x = true) (hf : M 166 x.toNatClampNeg = 0) : hCt l z m_X6_restore [.ref (z.1 + 0), .int x] n M R n (some (.int (-3))) M R := by
  refine hs_start [some (.ref (z.1 + 0)), some (.int x), none] (by decide +kernel) rfl (by intro u hu; simp at hu; rcases hu with rfl | rfl <;> first | rfl | exact isR_cat kv_isR | exact isR_cat aref_isR) (Nat.le_of_ble_eq_true rfl) (Nat.le_refl _) (fun X hlX hN hC hQ => ?_)
  dsimp only at hC hQ
  have hx0 := bSl_of hx
  refine gx_iload_n (i := 1) hC dX6_restore_0 rfl rfl ?_
  refine gx_if_lt (tgt := 9) hC dX6_restore_1 (by decide) (fun c_1 => ?_) (fun c_1 => ?_)
  · exact absurd c_1 (Int32.not_lt.mpr hx0.1)
  · refine gx_iload_n (i := 1) hC dX6_restore_4 rfl rfl ?_
    refine gx_iconst (v := 2) hC dX6_restore_5 ic_2 ?_
    refine gx_icmp_lt (tgt := 11) hC dX6_restore_6 (by decide) (fun c_6 => ?_) (fun c_6 => ?_)
    · refine gx_aload_n (i := 0) hC dX6_restore_11 rfl rfl (by first | exact Or.inl rfl | exact Or.inr ⟨_, rfl⟩) ?_
      refine gx_getR hC dX6_restore_12 fl_X6_29 (by first | exact gG.at0 | exact gG.at47 | exact gG.at48 | exact gG.at164 | exact gG.at165 | exact gG.at166 | exact gG.at213 | exact gG.at214 | exact gG.now.at | exact gG.ahd.at) rfl (gG.r3) (by decide) ?_
      refine gx_iload_n (i := 1) hC dX6_restore_15 rfl rfl ?_
      refine gx_callV1 hC dX6_restore_16 (c_X3_get _ _ gG _) kY_X3_get kV_X3_get ml_X6_228 (by first | exact gG.at0 | exact gG.at47 | exact gG.at48 | exact gG.at164 | exact gG.at165 | exact gG.at166 | exact gG.at213 | exact gG.at214 | exact gG.now.at | exact gG.ahd.at) rfl (by decide) rfl rfl rfl (by first | exact Nat.le_of_ble_eq_true rfl | (simp [Value.category, isR_cat kv_isR, isR_cat aref_isR]; done)) (Nat.le_refl _) (Nat.le_refl _) ?_
      rw [if_neg (fun q => q.2 hf)]
      show hG z n X n M R _ _ [Value.null]
      refine gx_astore_n (i := 2) (L' := [_, _, _]) hC dX6_restore_19 rfl (Nat.le_of_ble_eq_true rfl) rfl (fun u h9 => by first | exact Or.inl rfl | (right; cases h9; first | rfl | exact isR_cat rv_isR)) (by first | exact Or.inl rfl | exact Or.inr ⟨_, rfl⟩) ?_
      refine gx_aload_n (i := 2) hC dX6_restore_20 rfl rfl (by first | exact Or.inl rfl | exact Or.inr ⟨_, rfl⟩) ?_
      refine gx_ifnonnull_null hC dX6_restore_21 ?_
      refine gx_bipush (v := -3) hC dX6_restore_24 bp_m3 ?_
      exact gx_iret hC hQ dX6_restore_26 (rfl) (rfl) rfl
    · exact absurd hx0.2 c_6
set_option maxHeartbeats 4000000 in
set_option maxRecDepth 20000 in
theorem c0_X6_restore (l : Launch) (z : hZt) {n : Nat} {M : hMem} {R : hRef} (gG : GS n R) {x : Int32} (hx : bSl x = false) : hCt l z m_X6_restore [.ref (z.1 + 0), .int x] n M R n (some (.int (-1))) M R := by
  refine hs_start [some (.ref (z.1 + 0)), some (.int x), none] (by decide +kernel) rfl (by intro u hu; simp at hu; rcases hu with rfl | rfl <;> first | rfl | exact isR_cat kv_isR | exact isR_cat aref_isR) (Nat.le_of_ble_eq_true rfl) (Nat.le_refl _) (fun X hlX hN hC hQ => ?_)
  dsimp only at hC hQ
  refine gx_iload_n (i := 1) hC dX6_restore_0 rfl rfl ?_
  refine gx_if_lt (tgt := 9) hC dX6_restore_1 (by decide) (fun c_1 => ?_) (fun c_1 => ?_)
  · refine gx_iconst (v := -1) hC dX6_restore_9 ic_m1 ?_
    exact gx_iret hC hQ dX6_restore_10 (rfl) (rfl) rfl
  · refine gx_iload_n (i := 1) hC dX6_restore_4 rfl rfl ?_
    refine gx_iconst (v := 2) hC dX6_restore_5 ic_2 ?_
    refine gx_icmp_lt (tgt := 11) hC dX6_restore_6 (by decide) (fun c_6 => ?_) (fun c_6 => ?_)
    · rw [show bSl x = true from decide_eq_true ⟨Int32.not_lt.mp c_1, c_6⟩] at hx; cases hx
    · refine gx_iconst (v := -1) hC dX6_restore_9 ic_m1 ?_
      exact gx_iret hC hQ dX6_restore_10 (rfl) (rfl) rfl
