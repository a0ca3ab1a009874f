/-- a strip carried out: its answer, the memory, how many aircraft then -/
def cO (M : hMem) (lv c : Nat) : Int32 × hMem × Nat :=
  if M 213 4 = 43 then (if (cEn M c (M 213 5) (M 213 6) (M 213 7)).1 = 0 then (nI c, putS M 1 (sAdm (getS M 1) c (M 213 5) (M 213 6) (M 213 7)), c + 1) else ((cEn M c (M 213 5) (M 213 6) (M 213 7)).1, (cEn M c (M 213 5) (M 213 6) (M 213 7)).2, c))
  else if M 213 4 = 99 then (if cCl M (M 213 7) = 0 then (match sNum (getS M 1) (M 213 7) with
    | some j => (getS M 1 (3 + j) 4, putS M 1 (up2 (getS M 1) (3 + j) 6 1), c)
    | none => (-1, M, c)) else (cCl M (M 213 7), M, c))
  else if M 213 4 = 116 then ((sMin (getS M 1) lv (M 213 7).toNatClampNeg).1, putS M 1 (sMin (getS M 1) lv (M 213 7).toNatClampNeg).2, c)
  else (0, up2 M 1 6 (if M 213 4 = 111 then 1 else 0), c)
theorem getS_same {M f : hMem} {o i k : Nat} (h : i < 23) : getS (putS M o f) o i k = f i k := by rw [getS_at h, pSj h]
theorem SWget {M f : hMem} {o lv c : Nat} (h : SW f lv c) : SW (getS (putS M o f) o) lv c :=
  ⟨⟨(getS_same (by decide)).trans h.lv, h.l16⟩, ⟨(getS_same (by decide)).trans h.ct, h.c20⟩, fun j hj => ⟨(getS_same (by omega)).trans (h.nu hj), by rw [getS_same (by omega)]; exact h.kd hj⟩⟩
theorem SWup1 {M : hMem} {lv c i k : Nat} {x : Int32} (h : SW (getS M 1) lv c) (hi : i < 23) (h0 : i = 0 → k ≠ 2 ∧ k ≠ 3) (h3 : 3 ≤ i → 2 ≤ k) : SW (getS (up2 M (1 + i) k x) 1) lv c := by
  have e : up2 M (1 + i) k x = putS M 1 (up2 (getS M 1) i k x) := by rw [← up_S hi, putS_get]
  rw [e]
  exact SWget (h.up h0 h3)
theorem SWcEn {M : hMem} {lv c c2 : Nat} {kd fuel lev : Int32} (h : SW (getS M 1) lv c) : SW (getS (cEn M c2 kd fuel lev).2 1) lv c := by
  unfold cEn
  (repeat' split) <;> first | exact h | exact SWup1 (i := 0) h (by decide) (by decide) (by decide)
theorem cCl_ok {M : hMem} {x : Int32} (h : cCl M x = 0) : ∃ j, sNum (getS M 1) x = some j := by
  unfold cCl at h
  cases hh : sNum (getS M 1) x with
  | none => rw [hh] at h; exact absurd (show (-1 : Int32) = 0 from h) (by decide)
  | some j => exact ⟨j, rfl⟩
theorem SWcO {M : hMem} {lv c : Nat} (h : SW (getS M 1) lv c) : SW (getS (cO M lv c).2.1 1) lv (cO M lv c).2.2 := by
  unfold cO
  split
  · split
    · next h0 => exact SWget (SWadm h (cEn_ok h h0).1 (cEn_ok h h0).2)
    · exact SWcEn h
  · split
    · split
      · split
        · exact SWget (h.up (by omega) (by omega))
        · exact h
      · exact h
    · split
      · exact SWget (SWmin h _)
      · exact SWup1 (i := 0) h (by decide) (by decide) (by decide)
theorem cO_hi {M : hMem} {lv c i k : Nat} (hi : 24 ≤ i) : (cO M lv c).2.1 i k = M i k := by
  unfold cO cEn
  (repeat' split) <;> first | rfl | exact pSo (Or.inr (by omega)) | exact up2_off (by omega)
set_option maxHeartbeats 4000000 in
set_option maxRecDepth 20000 in
theorem c_X6_carryOutStrip (l : Launch) (z : hZt) {n : Nat} {M : hMem} {R : hRef} (gG : GS n R) {lv c : Nat} (hW : SW (getS M 1) lv c) : hCt l z m_X6_carryOutStrip [.ref (z.1 + 0)] n M R n (some (.int (cO M lv c).1)) (cO M lv c).2.1 R := by
  refine hs_start [some (.ref (z.1 + 0)), none] (by decide +kernel) rfl (by intro u hu; simp at hu; subst hu <;> first | rfl | exact isR_cat kv_isR | exact isR_cat aref_isR) (Nat.le_of_ble_eq_true rfl) (Nat.le_refl _) (fun X hlX hN hC hQ => ?_)
  dsimp only at hC hQ
  refine gx_aload_n (i := 0) hC dX6_carryOutStrip_0 rfl rfl (by first | exact kv_isR | exact Or.inr ⟨_, rfl⟩) ?_
  refine gx_getR hC dX6_carryOutStrip_1 fl_X6_36 (by first | exact gG.at0 | exact gG.at47 | exact gG.at48 | exact gG.at164 | exact gG.at165 | exact gG.at166 | exact gG.at213 | exact gG.at214 | exact gG.now.at | exact gG.ahd.at) rfl (gG.r4) (by decide) ?_
  refine gx_getC hC dX6_carryOutStrip_4 fl_X6_268 (by first | exact gG.at0 | exact gG.at47 | exact gG.at48 | exact gG.at164 | exact gG.at165 | exact gG.at166 | exact gG.at213 | exact gG.at214 | exact gG.now.at | exact gG.ahd.at) rfl (rfl) (fun hz_4 => ?_)
  by_cases q43 : M 213 4 = 43
  · refine gx_lookup (tgt := 40) hC dX6_carryOutStrip_7 (by decide) (by rw [show Op.lookupswitch.offset _ _ _ = Op.lookupswitch.offset [(43, 33), (99, 96), (116, 131)] 146 (M 213 4).toInt from rfl, lks_t (a := 43) (by rw [q43]; rfl)]) (by decide) ?_
    refine gx_aload_n (i := 0) hC dX6_carryOutStrip_40 rfl rfl (by first | exact kv_isR | exact Or.inr ⟨_, rfl⟩) ?_
    refine gx_aload_n (i := 0) hC dX6_carryOutStrip_41 rfl rfl (by first | exact kv_isR | exact Or.inr ⟨_, rfl⟩) ?_
    refine gx_getR hC dX6_carryOutStrip_42 fl_X6_36 (by first | exact gG.at0 | exact gG.at47 | exact gG.at48 | exact gG.at164 | exact gG.at165 | exact gG.at166 | exact gG.at213 | exact gG.at214 | exact gG.now.at | exact gG.ahd.at) rfl (gG.r4) (by decide) ?_
    refine gx_getE hC dX6_carryOutStrip_45 fl_X6_272 (by first | exact gG.at0 | exact gG.at47 | exact gG.at48 | exact gG.at164 | exact gG.at165 | exact gG.at166 | exact gG.at213 | exact gG.at214 | exact gG.now.at | exact gG.ahd.at) rfl (rfl) ?_
    refine gx_aload_n (i := 0) hC dX6_carryOutStrip_48 rfl rfl (by first | exact kv_isR | exact Or.inr ⟨_, rfl⟩) ?_
    refine gx_getR hC dX6_carryOutStrip_49 fl_X6_36 (by first | exact gG.at0 | exact gG.at47 | exact gG.at48 | exact gG.at164 | exact gG.at165 | exact gG.at166 | exact gG.at213 | exact gG.at214 | exact gG.now.at | exact gG.ahd.at) rfl (gG.r4) (by decide) ?_
    refine gx_getI hC dX6_carryOutStrip_52 fl_X6_273 (by first | exact gG.at0 | exact gG.at47 | exact gG.at48 | exact gG.at164 | exact gG.at165 | exact gG.at166 | exact gG.at213 | exact gG.at214 | exact gG.now.at | exact gG.ahd.at) (by decide) (rfl) ?_
    refine gx_aload_n (i := 0) hC dX6_carryOutStrip_55 rfl rfl (by first | exact kv_isR | exact Or.inr ⟨_, rfl⟩) ?_
    refine gx_getR hC dX6_carryOutStrip_56 fl_X6_36 (by first | exact gG.at0 | exact gG.at47 | exact gG.at48 | exact gG.at164 | exact gG.at165 | exact gG.at166 | exact gG.at213 | exact gG.at214 | exact gG.now.at | exact gG.ahd.at) rfl (gG.r4) (by decide) ?_
    refine gx_getI hC dX6_carryOutStrip_59 fl_X6_274 (by first | exact gG.at0 | exact gG.at47 | exact gG.at48 | exact gG.at164 | exact gG.at165 | exact gG.at166 | exact gG.at213 | exact gG.at214 | exact gG.now.at | exact gG.ahd.at) (by decide) (rfl) ?_
    refine gx_callV1 hC dX6_carryOutStrip_62 (c_X6_checkEntry _ _ gG hW _ _ _) kY_X6_checkEntry kV_X6_checkEntry ml_X6_78 (by first | exact gG.at0 | exact gG.at47 | exact gG.at48 | exact gG.at164 | exact gG.at165 | exact gG.at166 | exact gG.at213 | exact gG.at214 | exact gG.now.at | exact gG.ahd.at) rfl (by decide) rfl rfl rfl (by first | exact Nat.le_of_ble_eq_true rfl | (simp [Value.category, isR_cat kv_isR, isR_cat aref_isR]; done)) (Nat.le_refl _) (Nat.le_refl _) ?_
    refine gx_istore_n (i := 1) (L' := [_, _]) hC dX6_carryOutStrip_65 rfl (Nat.le_of_ble_eq_true rfl) rfl (fun u h9 => by first | exact Or.inl rfl | (cases h9; done) | (right; cases h9; first | rfl | exact isR_cat aref_isR | exact isR_cat kv_isR)) ?_
    refine gx_iload_n (i := 1) hC dX6_carryOutStrip_66 rfl rfl ?_
    refine gx_if_eq (tgt := 74) hC dX6_carryOutStrip_67 (by decide) (fun c_67 => ?_) (fun c_67 => ?_)
    · have hc := (cEn_ok hW c_67).1
      rw [cEn_M c_67]
      refine gx_aload_n (i := 0) hC dX6_carryOutStrip_74 rfl rfl (by first | exact kv_isR | exact Or.inr ⟨_, rfl⟩) ?_
      refine gx_getR hC dX6_carryOutStrip_75 fl_X6_10 (by first | exact gG.at0 | exact gG.at47 | exact gG.at48 | exact gG.at164 | exact gG.at165 | exact gG.at166 | exact gG.at213 | exact gG.at214 | exact gG.now.at | exact gG.ahd.at) rfl (gG.r0) (by decide) ?_
      refine gx_aload_n (i := 0) hC dX6_carryOutStrip_78 rfl rfl (by first | exact kv_isR | exact Or.inr ⟨_, rfl⟩) ?_
      refine gx_getR hC dX6_carryOutStrip_79 fl_X6_36 (by first | exact gG.at0 | exact gG.at47 | exact gG.at48 | exact gG.at164 | exact gG.at165 | exact gG.at166 | exact gG.at213 | exact gG.at214 | exact gG.now.at | exact gG.ahd.at) rfl (gG.r4) (by decide) ?_
      refine gx_getE hC dX6_carryOutStrip_82 fl_X6_272 (by first | exact gG.at0 | exact gG.at47 | exact gG.at48 | exact gG.at164 | exact gG.at165 | exact gG.at166 | exact gG.at213 | exact gG.at214 | exact gG.now.at | exact gG.ahd.at) rfl (rfl) ?_
      refine gx_aload_n (i := 0) hC dX6_carryOutStrip_85 rfl rfl (by first | exact kv_isR | exact Or.inr ⟨_, rfl⟩) ?_
      refine gx_getR hC dX6_carryOutStrip_86 fl_X6_36 (by first | exact gG.at0 | exact gG.at47 | exact gG.at48 | exact gG.at164 | exact gG.at165 | exact gG.at166 | exact gG.at213 | exact gG.at214 | exact gG.now.at | exact gG.ahd.at) rfl (gG.r4) (by decide) ?_
      refine gx_getI hC dX6_carryOutStrip_89 fl_X6_273 (by first | exact gG.at0 | exact gG.at47 | exact gG.at48 | exact gG.at164 | exact gG.at165 | exact gG.at166 | exact gG.at213 | exact gG.at214 | exact gG.now.at | exact gG.ahd.at) (by decide) (rfl) ?_
      refine gx_aload_n (i := 0) hC dX6_carryOutStrip_92 rfl rfl (by first | exact kv_isR | exact Or.inr ⟨_, rfl⟩) ?_
      refine gx_getR hC dX6_carryOutStrip_93 fl_X6_36 (by first | exact gG.at0 | exact gG.at47 | exact gG.at48 | exact gG.at164 | exact gG.at165 | exact gG.at166 | exact gG.at213 | exact gG.at214 | exact gG.now.at | exact gG.ahd.at) rfl (gG.r4) (by decide) ?_
      refine gx_getI hC dX6_carryOutStrip_96 fl_X6_274 (by first | exact gG.at0 | exact gG.at47 | exact gG.at48 | exact gG.at164 | exact gG.at165 | exact gG.at166 | exact gG.at213 | exact gG.at214 | exact gG.now.at | exact gG.ahd.at) (by decide) (rfl) ?_
      refine gx_callV1 hC dX6_carryOutStrip_99 (e_X4_admit gG.now hW hc _ _ _) kY_X4_admit kV_X4_admit ml_X6_82 (by first | exact gG.at0 | exact gG.at47 | exact gG.at48 | exact gG.at164 | exact gG.at165 | exact gG.at166 | exact gG.at213 | exact gG.at214 | exact gG.now.at | exact gG.ahd.at) rfl (by decide) rfl rfl rfl (by first | exact Nat.le_of_ble_eq_true rfl | (simp [Value.category, isR_cat kv_isR, isR_cat aref_isR]; done)) (Nat.le_refl _) (Nat.le_refl _) ?_
      exact gx_iret hC hQ dX6_carryOutStrip_102 ((by unfold cO; rw [if_pos q43, if_pos c_67])) ((by unfold cO; rw [if_pos q43, if_pos c_67])) rfl
    · refine gx_iload_n (i := 1) hC dX6_carryOutStrip_70 rfl rfl ?_
      refine gx_goto (tgt := 102) hC dX6_carryOutStrip_71 (by decide) ?_
      exact gx_iret hC hQ dX6_carryOutStrip_102 ((by unfold cO; rw [if_pos q43, if_neg c_67])) ((by unfold cO; rw [if_pos q43, if_neg c_67])) rfl
  by_cases q99 : M 213 4 = 99
  · refine gx_lookup (tgt := 103) hC dX6_carryOutStrip_7 (by decide) (by rw [show Op.lookupswitch.offset _ _ _ = Op.lookupswitch.offset [(43, 33), (99, 96), (116, 131)] 146 (M 213 4).toInt from rfl, lv_osw (a := 43) q43 (by decide), lks_t (a := 99) (by rw [q99]; rfl)]) (by decide) ?_
    refine gx_aload_n (i := 0) hC dX6_carryOutStrip_103 rfl rfl (by first | exact kv_isR | exact Or.inr ⟨_, rfl⟩) ?_
    refine gx_aload_n (i := 0) hC dX6_carryOutStrip_104 rfl rfl (by first | exact kv_isR | exact Or.inr ⟨_, rfl⟩) ?_
    refine gx_getR hC dX6_carryOutStrip_105 fl_X6_36 (by first | exact gG.at0 | exact gG.at47 | exact gG.at48 | exact gG.at164 | exact gG.at165 | exact gG.at166 | exact gG.at213 | exact gG.at214 | exact gG.now.at | exact gG.ahd.at) rfl (gG.r4) (by decide) ?_
    refine gx_getI hC dX6_carryOutStrip_108 fl_X6_274 (by first | exact gG.at0 | exact gG.at47 | exact gG.at48 | exact gG.at164 | exact gG.at165 | exact gG.at166 | exact gG.at213 | exact gG.at214 | exact gG.now.at | exact gG.ahd.at) (by decide) (rfl) ?_
    refine gx_callV1 hC dX6_carryOutStrip_111 (c_X6_checkCall _ _ gG _) kY_X6_checkCall kV_X6_checkCall ml_X6_85 (by first | exact gG.at0 | exact gG.at47 | exact gG.at48 | exact gG.at164 | exact gG.at165 | exact gG.at166 | exact gG.at213 | exact gG.at214 | exact gG.now.at | exact gG.ahd.at) rfl (by decide) rfl rfl rfl (by first | exact Nat.le_of_ble_eq_true rfl | (simp [Value.category, isR_cat kv_isR, isR_cat aref_isR]; done)) (Nat.le_refl _) (Nat.le_refl _) ?_
    refine gx_istore_n (i := 1) (L' := [_, _]) hC dX6_carryOutStrip_114 rfl (Nat.le_of_ble_eq_true rfl) rfl (fun u h9 => by first | exact Or.inl rfl | (cases h9; done) | (right; cases h9; first | rfl | exact isR_cat aref_isR | exact isR_cat kv_isR)) ?_
    refine gx_iload_n (i := 1) hC dX6_carryOutStrip_115 rfl rfl ?_
    refine gx_if_eq (tgt := 123) hC dX6_carryOutStrip_116 (by decide) (fun c_116 => ?_) (fun c_116 => ?_)
    · obtain ⟨j, hj⟩ := cCl_ok c_116
      refine gx_aload_n (i := 0) hC dX6_carryOutStrip_123 rfl rfl (by first | exact kv_isR | exact Or.inr ⟨_, rfl⟩) ?_
      refine gx_getR hC dX6_carryOutStrip_124 fl_X6_10 (by first | exact gG.at0 | exact gG.at47 | exact gG.at48 | exact gG.at164 | exact gG.at165 | exact gG.at166 | exact gG.at213 | exact gG.at214 | exact gG.now.at | exact gG.ahd.at) rfl (gG.r0) (by decide) ?_
      refine gx_aload_n (i := 0) hC dX6_carryOutStrip_127 rfl rfl (by first | exact kv_isR | exact Or.inr ⟨_, rfl⟩) ?_
      refine gx_getR hC dX6_carryOutStrip_128 fl_X6_36 (by first | exact gG.at0 | exact gG.at47 | exact gG.at48 | exact gG.at164 | exact gG.at165 | exact gG.at166 | exact gG.at213 | exact gG.at214 | exact gG.now.at | exact gG.ahd.at) rfl (gG.r4) (by decide) ?_
      refine gx_getI hC dX6_carryOutStrip_131 fl_X6_274 (by first | exact gG.at0 | exact gG.at47 | exact gG.at48 | exact gG.at164 | exact gG.at165 | exact gG.at166 | exact gG.at213 | exact gG.at214 | exact gG.now.at | exact gG.ahd.at) (by decide) (rfl) ?_
      refine gx_callV1 hC dX6_carryOutStrip_134 (e_X4_markCalled gG.now _ hj) kY_X4_markCalled kV_X4_markCalled ml_X6_89 (by first | exact gG.at0 | exact gG.at47 | exact gG.at48 | exact gG.at164 | exact gG.at165 | exact gG.at166 | exact gG.at213 | exact gG.at214 | exact gG.now.at | exact gG.ahd.at) rfl (by decide) rfl rfl rfl (by first | exact Nat.le_of_ble_eq_true rfl | (simp [Value.category, isR_cat kv_isR, isR_cat aref_isR]; done)) (Nat.le_refl _) (Nat.le_refl _) ?_
      exact gx_iret hC hQ dX6_carryOutStrip_137 ((by unfold cO; rw [if_neg q43, if_pos q99, if_pos c_116, hj])) ((by unfold cO; rw [if_neg q43, if_pos q99, if_pos c_116, hj])) rfl
    · refine gx_iload_n (i := 1) hC dX6_carryOutStrip_119 rfl rfl ?_
      refine gx_goto (tgt := 137) hC dX6_carryOutStrip_120 (by decide) ?_
      exact gx_iret hC hQ dX6_carryOutStrip_137 ((by unfold cO; rw [if_neg q43, if_pos q99, if_neg c_116])) ((by unfold cO; rw [if_neg q43, if_pos q99, if_neg c_116])) rfl
  by_cases q116 : M 213 4 = 116
  · refine gx_lookup (tgt := 138) hC dX6_carryOutStrip_7 (by decide) (by rw [show Op.lookupswitch.offset _ _ _ = Op.lookupswitch.offset [(43, 33), (99, 96), (116, 131)] 146 (M 213 4).toInt from rfl, lv_osw (a := 43) q43 (by decide), lv_osw (a := 99) q99 (by decide), lks_t (a := 116) (by rw [q116]; rfl)]) (by decide) ?_
    refine gx_aload_n (i := 0) hC dX6_carryOutStrip_138 rfl rfl (by first | exact kv_isR | exact Or.inr ⟨_, rfl⟩) ?_
    refine gx_getR hC dX6_carryOutStrip_139 fl_X6_10 (by first | exact gG.at0 | exact gG.at47 | exact gG.at48 | exact gG.at164 | exact gG.at165 | exact gG.at166 | exact gG.at213 | exact gG.at214 | exact gG.now.at | exact gG.ahd.at) rfl (gG.r0) (by decide) ?_
    refine gx_aload_n (i := 0) hC dX6_carryOutStrip_142 rfl rfl (by first | exact kv_isR | exact Or.inr ⟨_, rfl⟩) ?_
    refine gx_getR hC dX6_carryOutStrip_143 fl_X6_36 (by first | exact gG.at0 | exact gG.at47 | exact gG.at48 | exact gG.at164 | exact gG.at165 | exact gG.at166 | exact gG.at213 | exact gG.at214 | exact gG.now.at | exact gG.ahd.at) rfl (gG.r4) (by decide) ?_
    refine gx_getI hC dX6_carryOutStrip_146 fl_X6_274 (by first | exact gG.at0 | exact gG.at47 | exact gG.at48 | exact gG.at164 | exact gG.at165 | exact gG.at166 | exact gG.at213 | exact gG.at214 | exact gG.now.at | exact gG.ahd.at) (by decide) (rfl) ?_
    refine gx_callV1 hC dX6_carryOutStrip_149 (e_X4_passMinutes gG.now hW _) kY_X4_passMinutes kV_X4_passMinutes ml_X6_92 (by first | exact gG.at0 | exact gG.at47 | exact gG.at48 | exact gG.at164 | exact gG.at165 | exact gG.at166 | exact gG.at213 | exact gG.at214 | exact gG.now.at | exact gG.ahd.at) rfl (by decide) rfl rfl rfl (by first | exact Nat.le_of_ble_eq_true rfl | (simp [Value.category, isR_cat kv_isR, isR_cat aref_isR]; done)) (Nat.le_refl _) (Nat.le_refl _) ?_
    exact gx_iret hC hQ dX6_carryOutStrip_152 ((by unfold cO; rw [if_neg q43, if_neg q99, if_pos q116])) ((by unfold cO; rw [if_neg q43, if_neg q99, if_pos q116])) rfl
  refine gx_lookup (tgt := 153) hC dX6_carryOutStrip_7 (by decide) (by rw [show Op.lookupswitch.offset _ _ _ = Op.lookupswitch.offset [(43, 33), (99, 96), (116, 131)] 146 (M 213 4).toInt from rfl, lv_osw (a := 43) q43 (by decide), lv_osw (a := 99) q99 (by decide), lv_osw (a := 116) q116 (by decide), lks_n]) (by decide) ?_
  refine gx_aload_n (i := 0) hC dX6_carryOutStrip_153 rfl rfl (by first | exact kv_isR | exact Or.inr ⟨_, rfl⟩) ?_
  refine gx_getR hC dX6_carryOutStrip_154 fl_X6_10 (by first | exact gG.at0 | exact gG.at47 | exact gG.at48 | exact gG.at164 | exact gG.at165 | exact gG.at166 | exact gG.at213 | exact gG.at214 | exact gG.now.at | exact gG.ahd.at) rfl (gG.r0) (by decide) ?_
  refine gx_aload_n (i := 0) hC dX6_carryOutStrip_157 rfl rfl (by first | exact kv_isR | exact Or.inr ⟨_, rfl⟩) ?_
  refine gx_getR hC dX6_carryOutStrip_158 fl_X6_36 (by first | exact gG.at0 | exact gG.at47 | exact gG.at48 | exact gG.at164 | exact gG.at165 | exact gG.at166 | exact gG.at213 | exact gG.at214 | exact gG.now.at | exact gG.ahd.at) rfl (gG.r4) (by decide) ?_
  refine gx_getC hC dX6_carryOutStrip_161 fl_X6_268 (by first | exact gG.at0 | exact gG.at47 | exact gG.at48 | exact gG.at164 | exact gG.at165 | exact gG.at166 | exact gG.at213 | exact gG.at214 | exact gG.now.at | exact gG.ahd.at) rfl (rfl) (fun hz_161 => ?_)
  refine gx_bipush (v := 111) hC dX6_carryOutStrip_164 bp_111 ?_
  refine gx_icmp_ne (tgt := 173) hC dX6_carryOutStrip_166 (by decide) (fun c_166 => ?_) (fun c_166 => ?_)
  · refine gx_iconst (v := 0) hC dX6_carryOutStrip_173 ic_0 ?_
    refine gx_putZ hC dX6_carryOutStrip_174 fl_X6_61 (by first | exact gG.at0 | exact gG.at47 | exact gG.at48 | exact gG.at164 | exact gG.at165 | exact gG.at166 | exact gG.at213 | exact gG.at214 | exact gG.now.at | exact gG.ahd.at) fn_3_6 rfl (by first | exact Or.inl rfl | exact Or.inr rfl) (rfl) ?_
    refine gx_iconst (v := 0) hC dX6_carryOutStrip_177 ic_0 ?_
    exact gx_iret hC hQ dX6_carryOutStrip_178 ((by unfold cO; rw [if_neg q43, if_neg q99, if_neg q116])) ((by unfold cO; rw [if_neg q43, if_neg q99, if_neg q116]; rw [if_neg c_166])) rfl
  · refine gx_iconst (v := 1) hC dX6_carryOutStrip_169 ic_1 ?_
    refine gx_goto (tgt := 174) hC dX6_carryOutStrip_170 (by decide) ?_
    refine gx_putZ hC dX6_carryOutStrip_174 fl_X6_61 (by first | exact gG.at0 | exact gG.at47 | exact gG.at48 | exact gG.at164 | exact gG.at165 | exact gG.at166 | exact gG.at213 | exact gG.at214 | exact gG.now.at | exact gG.ahd.at) fn_3_6 rfl (by first | exact Or.inl rfl | exact Or.inr rfl) (rfl) ?_
    refine gx_iconst (v := 0) hC dX6_carryOutStrip_177 ic_0 ?_
    exact gx_iret hC hQ dX6_carryOutStrip_178 ((by unfold cO; rw [if_neg q43, if_neg q99, if_neg q116])) ((by unfold cO; rw [if_neg q43, if_neg q99, if_neg q116]; rw [if_pos c_166])) rfl
/-- strips, one after the other, up to the first that can't be carried out -/
def ruS (lv : Nat) : Nat → Nat → hMem → Nat → Int32 × hMem
  | 0, i, M, _ => (nI i, M)
  | k + 1, i, M, c => if (sRd (M 214) (M 213)).1 = true then
      (if 0 ≤ (cO (putRow M 213 (sRd (M 214) (M 213)).2) lv c).1 then ruS lv k (i + 1) (cO (putRow M 213 (sRd (M 214) (M 213)).2) lv c).2.1 (cO (putRow M 213 (sRd (M 214) (M 213)).2) lv c).2.2
       else (nI i, (cO (putRow M 213 (sRd (M 214) (M 213)).2) lv c).2.1))
    else (nI i, putRow M 213 (sRd (M 214) (M 213)).2)
section RUS
variable {lv k i c : Nat} {M : hMem}
theorem ruS_f (h : (sRd (M 214) (M 213)).1 = false) : ruS lv (k + 1) i M c = (nI i, putRow M 213 (sRd (M 214) (M 213)).2) := by rw [ruS, h]; rfl
theorem ruS_e (h : (sRd (M 214) (M 213)).1 = true) (h1 : ¬ 0 ≤ (cO (putRow M 213 (sRd (M 214) (M 213)).2) lv c).1) : ruS lv (k + 1) i M c = (nI i, (cO (putRow M 213 (sRd (M 214) (M 213)).2) lv c).2.1) := by rw [ruS, if_pos h, if_neg h1]
theorem ruS_s (h : (sRd (M 214) (M 213)).1 = true) (h1 : 0 ≤ (cO (putRow M 213 (sRd (M 214) (M 213)).2) lv c).1) : ruS lv (k + 1) i M c = ruS lv k (i + 1) (cO (putRow M 213 (sRd (M 214) (M 213)).2) lv c).2.1 (cO (putRow M 213 (sRd (M 214) (M 213)).2) lv c).2.2 := by rw [ruS, if_pos h, if_pos h1]
end RUS
theorem getS_row {M : hMem} {s : Nat → Int32} : getS (putRow M 213 s) 1 = getS M 1 := by
  funext i k
  unfold getS
  split
  · exact pRo (by omega)
  · rfl
/-- the memory in which the strips begin -/
def ruM (M : hMem) (R : hRef) (s c : Nat) : hMem := putRow (pM (putRow M 213 (sFF (M 214) (M 213))) R s c) 213 (sRes (pM (putRow M 213 (sFF (M 214) (M 213))) R s c 213))
set_option maxHeartbeats 4000000 in
set_option maxRecDepth 20000 in
theorem c_X6_run (l : Launch) (z : hZt) {n : Nat} {M : hMem} {R : hRef} (gG : GS n R) {lv c : Nat} (hW : SW (getS M 1) lv c) {s : Nat} (hs : M 47 1 = nI s) (hs5 : s ≤ 5) (h0 : sFF (M 214) (M 213) 3 = -6) : hCt l z m_X6_run [.ref (z.1 + 0)] n M R n (some (.int (ruS lv 80 0 (ruM M R s c) c).1)) (ruS lv 80 0 (ruM M R s c) c).2 (pR R s) := by
  refine hs_start [some (.ref (z.1 + 0)), none] (by decide +kernel) rfl (by intro u hu; simp at hu; subst hu <;> first | rfl | exact isR_cat kv_isR | exact isR_cat aref_isR) (Nat.le_of_ble_eq_true rfl) (Nat.le_refl _) (fun X hlX hN hC hQ => ?_)
  dsimp only at hC hQ
  have g1 := GSpR gG s
  have hW1 : SW (getS (ruM M R s c) 1) lv c := by unfold ruM; rw [getS_row, pM_now gG, getS_row]; exact hW
  refine gx_aload_n (i := 0) hC dX6_run_0 rfl rfl (by first | exact Or.inr ⟨_, rfl⟩ | exact Or.inl rfl | exact kv_isR | exact aref_isR) ?_
  refine gx_getR hC dX6_run_1 fl_X6_36 (by first | exact gG.at0 | exact gG.at47 | exact gG.at48 | exact gG.at164 | exact gG.at165 | exact gG.at166 | exact gG.at213 | exact gG.at214 | exact gG.now.at | exact gG.ahd.at) rfl (by first | exact gG.r4 | exact g1.r4) (by decide) ?_
  refine gx_callV1 hC dX6_run_4 (e_X5_findFault gG) kY_X5_findFault kV_X5_findFault ml_X6_208 (by first | exact gG.at0 | exact gG.at47 | exact gG.at48 | exact gG.at164 | exact gG.at165 | exact gG.at166 | exact gG.at213 | exact gG.at214 | exact gG.now.at | exact gG.ahd.at) rfl (by decide) rfl rfl rfl (by first | exact Nat.le_of_ble_eq_true rfl | (simp [Value.category, isR_cat kv_isR, isR_cat aref_isR]; done)) (Nat.le_refl _) (Nat.le_refl _) ?_
  refine gx_bipush (v := -6) hC dX6_run_7 bp_m6 ?_
  refine gx_icmp_eq (tgt := 15) hC dX6_run_9 (by decide) (fun c_9 => ?_) (fun c_9 => ?_)
  · refine gx_aload_n (i := 0) hC dX6_run_15 rfl rfl (by first | exact Or.inr ⟨_, rfl⟩ | exact Or.inl rfl | exact kv_isR | exact aref_isR) ?_
    refine gx_getR hC dX6_run_16 fl_X6_22 (by first | exact gG.at0 | exact gG.at47 | exact gG.at48 | exact gG.at164 | exact gG.at165 | exact gG.at166 | exact gG.at213 | exact gG.at214 | exact gG.now.at | exact gG.ahd.at) rfl (by first | exact gG.r2 | exact g1.r2) (by decide) ?_
    refine gx_aload_n (i := 0) hC dX6_run_19 rfl rfl (by first | exact Or.inr ⟨_, rfl⟩ | exact Or.inl rfl | exact kv_isR | exact aref_isR) ?_
    refine gx_getR hC dX6_run_20 fl_X6_10 (by first | exact gG.at0 | exact gG.at47 | exact gG.at48 | exact gG.at164 | exact gG.at165 | exact gG.at166 | exact gG.at213 | exact gG.at214 | exact gG.now.at | exact gG.ahd.at) rfl (by first | exact gG.r0 | exact g1.r0) (by decide) ?_
    refine gx_callV0 hC dX6_run_23 (c_X1_push _ _ gG ((pRo (by decide)).trans hs) hs5 ((pRo (by decide)).trans (c1_of hW)) hW.c20) kY_X1_push kV_X1_push ml_X6_40 (by first | exact gG.at0 | exact gG.at47 | exact gG.at48 | exact gG.at164 | exact gG.at165 | exact gG.at166 | exact gG.at213 | exact gG.at214 | exact gG.now.at | exact gG.ahd.at) rfl (by decide) rfl rfl rfl (by first | exact Nat.le_of_ble_eq_true rfl | (simp [Value.category, isR_cat kv_isR, isR_cat aref_isR]; done)) (Nat.le_refl _) (Nat.le_refl _) ?_
    refine gx_aload_n (i := 0) hC dX6_run_26 rfl rfl (by first | exact Or.inr ⟨_, rfl⟩ | exact Or.inl rfl | exact kv_isR | exact aref_isR) ?_
    refine gx_getR hC dX6_run_27 fl_X6_36 (by first | exact gG.at0 | exact gG.at47 | exact gG.at48 | exact gG.at164 | exact gG.at165 | exact gG.at166 | exact gG.at213 | exact gG.at214 | exact gG.now.at | exact gG.ahd.at) rfl (by first | exact gG.r4 | exact g1.r4) (by decide) ?_
    refine gx_callV0 hC dX6_run_30 (e_X5_restart g1) kY_X5_restart kV_X5_restart ml_X6_211 (by first | exact gG.at0 | exact gG.at47 | exact gG.at48 | exact gG.at164 | exact gG.at165 | exact gG.at166 | exact gG.at213 | exact gG.at214 | exact gG.now.at | exact gG.ahd.at) rfl (by decide) rfl rfl rfl (by first | exact Nat.le_of_ble_eq_true rfl | (simp [Value.category, isR_cat kv_isR, isR_cat aref_isR]; done)) (Nat.le_refl _) (Nat.le_refl _) ?_
    refine gx_iconst (v := nI 0) hC dX6_run_33 ic_0n ?_
    refine gx_istore_n (i := 1) (L' := [_, _]) hC dX6_run_34 rfl (Nat.le_of_ble_eq_true rfl) rfl (fun u h9 => by first | exact Or.inl rfl | (cases h9; done) | (right; cases h9; first | rfl | exact isR_cat aref_isR | exact isR_cat kv_isR)) ?_
    have loop_35 : ∀ (k : Nat) (i : Nat) (m : hMem) (d : Nat), 80 - i < k → i ≤ 80 → SW (getS m 1) lv d → ruS lv (80 - i) i m d = ruS lv 80 0 (ruM M R s c) c → hG z n X n m (pR R s) 35 [some (.ref (z.1 + 0)), some (.int (nI i))] [] := by
      intro k
      induction k with
      | zero => intros; omega
      | succ k ih =>
        intro i m d hk1 hi hm hgg
        refine gx_iload_n (i := 1) hC dX6_run_35 rfl rfl ?_
        refine gx_bipush (v := nI 80) hC dX6_run_36 bp_80n ?_
        refine gx_icmp_ge (tgt := 64) hC dX6_run_38 (by decide) (fun c_38 => ?_) (fun c_38 => ?_)
        · have d_38 := cle (by omega) (by omega) c_38
          refine gx_iload_n (i := 1) hC dX6_run_64 rfl rfl ?_
          exact gx_iret hC hQ dX6_run_65 ((by rw [← hgg, show 80 - i = 0 by omega]; rfl)) ((by rw [← hgg, show 80 - i = 0 by omega]; rfl)) rfl
        · have d_38 := cnle (by omega) (by omega) c_38
          refine gx_aload_n (i := 0) hC dX6_run_41 rfl rfl (by first | exact Or.inr ⟨_, rfl⟩ | exact Or.inl rfl | exact kv_isR | exact aref_isR) ?_
          refine gx_getR hC dX6_run_42 fl_X6_36 (by first | exact gG.at0 | exact gG.at47 | exact gG.at48 | exact gG.at164 | exact gG.at165 | exact gG.at166 | exact gG.at213 | exact gG.at214 | exact gG.now.at | exact gG.ahd.at) rfl (by first | exact gG.r4 | exact g1.r4) (by decide) ?_
          refine gx_callV1 hC dX6_run_45 (e_X5_readStrip g1) kY_X5_readStrip kV_X5_readStrip ml_X6_214 (by first | exact gG.at0 | exact gG.at47 | exact gG.at48 | exact gG.at164 | exact gG.at165 | exact gG.at166 | exact gG.at213 | exact gG.at214 | exact gG.now.at | exact gG.ahd.at) rfl (by decide) rfl rfl rfl (by first | exact Nat.le_of_ble_eq_true rfl | (simp [Value.category, isR_cat kv_isR, isR_cat aref_isR]; done)) (Nat.le_refl _) (Nat.le_refl _) ?_
          refine gx_ifb_eq (tgt := 64) hC dX6_run_48 (by decide) (fun c_48 => ?_) (fun c_48 => ?_)
          · refine gx_iload_n (i := 1) hC dX6_run_64 rfl rfl ?_
            exact gx_iret hC hQ dX6_run_65 ((by rw [← hgg, show 80 - i = (80 - (i + 1)) + 1 by omega, ruS_f c_48])) ((by rw [← hgg, show 80 - i = (80 - (i + 1)) + 1 by omega, ruS_f c_48])) rfl
          · refine gx_aload_n (i := 0) hC dX6_run_51 rfl rfl (by first | exact Or.inr ⟨_, rfl⟩ | exact Or.inl rfl | exact kv_isR | exact aref_isR) ?_
            refine gx_callV1 hC dX6_run_52 (c_X6_carryOutStrip _ _ g1 (by rw [getS_row]; exact hm)) kY_X6_carryOutStrip kV_X6_carryOutStrip ml_X6_217 (by first | exact gG.at0 | exact gG.at47 | exact gG.at48 | exact gG.at164 | exact gG.at165 | exact gG.at166 | exact gG.at213 | exact gG.at214 | exact gG.now.at | exact gG.ahd.at) rfl (by decide) rfl rfl rfl (by first | exact Nat.le_of_ble_eq_true rfl | (simp [Value.category, isR_cat kv_isR, isR_cat aref_isR]; done)) (Nat.le_refl _) (Nat.le_refl _) ?_
            refine gx_if_lt (tgt := 64) hC dX6_run_55 (by decide) (fun c_55 => ?_) (fun c_55 => ?_)
            · refine gx_iload_n (i := 1) hC dX6_run_64 rfl rfl ?_
              exact gx_iret hC hQ dX6_run_65 ((by rw [← hgg, show 80 - i = (80 - (i + 1)) + 1 by omega, ruS_e c_48 (Int32.not_le.mpr c_55)])) ((by rw [← hgg, show 80 - i = (80 - (i + 1)) + 1 by omega, ruS_e c_48 (Int32.not_le.mpr c_55)])) rfl
            · refine gx_iinc (i := 1) (L' := [_, _]) hC dX6_run_58 rfl (ii_1 _) (Nat.le_of_ble_eq_true rfl) rfl (fun u h9 => by first | exact Or.inl rfl | (cases h9; done) | (right; cases h9; first | rfl | exact isR_cat aref_isR | exact isR_cat kv_isR)) ?_
              refine gx_goto (tgt := 35) hC dX6_run_61 (by decide) ?_
              exact ih (i + 1) _ _ (by omega) (by omega) (SWcO (by rw [getS_row]; exact hm)) (by rw [← hgg, show 80 - i = (80 - (i + 1)) + 1 by omega, ruS_s c_48 (Int32.not_lt.mp c_55)])
    exact loop_35 81 0 (ruM M R s c) c (by omega) (by omega) hW1 rfl
  · exact absurd h0 c_9
set_option maxHeartbeats 4000000 in
set_option maxRecDepth 20000 in
theorem c0_X6_run (l : Launch) (z : hZt) {n : Nat} {M : hMem} {R : hRef} (gG : GS n R) (h0 : ¬ sFF (M 214) (M 213) 3 = -6) : hCt l z m_X6_run [.ref (z.1 + 0)] n M R n (some (.int (-3))) (putRow M 213 (sFF (M 214) (M 213))) R := by
  refine hs_start [some (.ref (z.1 + 0)), none] (by decide +kernel) rfl (by intro u hu; simp at hu; subst hu <;> first | rfl | exact isR_cat kv_isR | exact isR_cat aref_isR) (Nat.le_of_ble_eq_true rfl) (Nat.le_refl _) (fun X hlX hN hC hQ => ?_)
  dsimp only at hC hQ
  refine gx_aload_n (i := 0) hC dX6_run_0 rfl rfl (by first | exact Or.inr ⟨_, rfl⟩ | exact Or.inl rfl | exact kv_isR | exact aref_isR) ?_
  refine gx_getR hC dX6_run_1 fl_X6_36 (by first | exact gG.at0 | exact gG.at47 | exact gG.at48 | exact gG.at164 | exact gG.at165 | exact gG.at166 | exact gG.at213 | exact gG.at214 | exact gG.now.at | exact gG.ahd.at) rfl (gG.r4) (by decide) ?_
  refine gx_callV1 hC dX6_run_4 (e_X5_findFault gG) kY_X5_findFault kV_X5_findFault ml_X6_208 (by first | exact gG.at0 | exact gG.at47 | exact gG.at48 | exact gG.at164 | exact gG.at165 | exact gG.at166 | exact gG.at213 | exact gG.at214 | exact gG.now.at | exact gG.ahd.at) rfl (by decide) rfl rfl rfl (by first | exact Nat.le_of_ble_eq_true rfl | (simp [Value.category, isR_cat kv_isR, isR_cat aref_isR]; done)) (Nat.le_refl _) (Nat.le_refl _) ?_
  refine gx_bipush (v := -6) hC dX6_run_7 bp_m6 ?_
  refine gx_icmp_eq (tgt := 15) hC dX6_run_9 (by decide) (fun c_9 => ?_) (fun c_9 => ?_)
  · exact absurd c_9 h0
  · refine gx_bipush (v := -3) hC dX6_run_12 bp_m3 ?_
    exact gx_iret hC hQ dX6_run_14 (rfl) (rfl) rfl
