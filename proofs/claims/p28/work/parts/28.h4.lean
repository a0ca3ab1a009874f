/-- numbers and kinds of all aircraft of a block -/
def KN (f : hMem) : Prop := ∀ j, j < 20 → f (3 + j) 0 = nI j ∧ hk (f (3 + j) 1)
theorem SW.kn {f : hMem} {lv c : Nat} (h : SW f lv c) : KN f := h.2.2
theorem sCopy_0 {f g : hMem} {c k : Nat} (h : 2 ≤ k ∧ k ≤ 15) : sCopy f g c 0 k = g 0 k := by
  unfold sCopy sC2 sC1
  rw [if_neg (by omega), if_pos ⟨rfl, h⟩]
theorem sCopy_2 {f g : hMem} {c k : Nat} (h : k < 16) : sCopy f g c 2 k = g 2 k := by
  unfold sCopy sC2
  rw [if_pos ⟨rfl, h⟩]
theorem sCopy_c {f g : hMem} {c j k : Nat} (hj : j < c) (h : 1 ≤ k ∧ k ≤ 7) : sCopy f g c (3 + j) k = g (3 + j) k := by
  unfold sCopy sC2 sC1
  rw [if_neg (by omega), if_neg (by omega), if_pos (by omega)]
theorem sCopy_o {f g : hMem} {c j k : Nat} (hj : c ≤ j ∨ k = 0) : sCopy f g c (3 + j) k = f (3 + j) k := by
  unfold sCopy sC2 sC1
  rw [if_neg (by omega), if_neg (by omega), if_neg (by omega)]
theorem SWcopy {f g : hMem} {lv c : Nat} (hf : KN f) (h : SW g lv c) : SW (sCopy f g c) lv c := by
  refine ⟨⟨(sCopy_0 (by decide)).trans h.lv, h.l16⟩, ⟨(sCopy_0 (by decide)).trans h.ct, h.c20⟩, fun j hj => ⟨(sCopy_o (Or.inr rfl)).trans (hf j hj).1, ?_⟩⟩
  by_cases hc : j < c
  · rw [sCopy_c hc (by decide)]; exact h.kd hj
  · rw [sCopy_o (Or.inl (by omega))]; exact (hf j hj).2
/-- minutes ahead, k at most, while one may land -/
def fcS (lv c : Nat) : Nat → hMem → hMem
  | 0, f => f
  | k + 1, f => if bMay f c = true then fcS lv c k (sPass f lv).2 else f
theorem fcS_t {lv c k : Nat} {f : hMem} (h : bMay f c = true) : fcS lv c (k + 1) f = fcS lv c k (sPass f lv).2 := by rw [fcS, if_pos h]
theorem fcS_f {lv c k : Nat} {f : hMem} (h : bMay f c = false) : fcS lv c (k + 1) f = f := by rw [fcS, h]; rfl
theorem SWfc {lv c : Nat} : ∀ (k : Nat) {f : hMem}, SW f lv c → SW (fcS lv c k f) lv c := by
  intro k
  induction k with
  | zero => exact fun h => h
  | succ k ih =>
    intro f h
    rw [fcS]
    split
    · exact ih (SWpass h)
    · exact h
/-- the state ahead, as a forecast begins -/
def aC (M : hMem) (c : Nat) : hMem := sCopy (getS M 24) (getS M 1) c
theorem c1_of {M : hMem} {lv c : Nat} (hW : SW (getS M 1) lv c) : M 1 2 = nI c := getS_0.symm.trans hW.ct
set_option maxHeartbeats 4000000 in
set_option maxRecDepth 20000 in
theorem c_X6_forecast (l : Launch) (z : hZt) {n : Nat} {M : hMem} {R : hRef} (gG : GS n R) {lv c : Nat} (hW : SW (getS M 1) lv c) (hA24 : KN (getS M 24)) : hCt l z m_X6_forecast [.ref (z.1 + 0)] n M R n none (putS M 24 (fcS lv c 600 (aC M c))) R := by
  refine hs_start [some (.ref (z.1 + 0)), none] (by decide +kernel) rfl (by intro u hu; simp at hu; subst hu <;> first | rfl | exact isR_cat kv_isR | exact isR_cat aref_isR) (Nat.le_of_ble_eq_true rfl) (Nat.le_refl _) (fun X hlX hN hC hQ => ?_)
  dsimp only at hC hQ
  refine gx_aload_n (i := 0) hC dX6_forecast_0 rfl rfl (by first | exact Or.inr ⟨_, rfl⟩ | exact Or.inl rfl | exact kv_isR | exact aref_isR) ?_
  refine gx_getR hC dX6_forecast_1 fl_X6_16 (by first | exact gG.at0 | exact gG.now.at | exact gG.ahd.at | exact gG.now.ac (by assumption) | exact gG.ahd.ac (by assumption)) rfl (gG.r1) (by decide) ?_
  refine gx_aload_n (i := 0) hC dX6_forecast_4 rfl rfl (by first | exact Or.inr ⟨_, rfl⟩ | exact Or.inl rfl | exact kv_isR | exact aref_isR) ?_
  refine gx_getR hC dX6_forecast_5 fl_X6_10 (by first | exact gG.at0 | exact gG.now.at | exact gG.ahd.at | exact gG.now.ac (by assumption) | exact gG.ahd.ac (by assumption)) rfl (gG.r0) (by decide) ?_
  refine gx_callV0 hC dX6_forecast_8 (d_X4_copyFrom gG.ahd gG.now (Or.inl (by decide)) (c1_of hW) hW.c20) kY_X4_copyFrom kV_X4_copyFrom ml_X6_188 (by first | exact gG.at0 | exact gG.now.at | exact gG.ahd.at | exact gG.now.ac (by assumption) | exact gG.ahd.ac (by assumption)) rfl (by decide) rfl rfl rfl (by first | exact Nat.le_of_ble_eq_true rfl | (simp [Value.category, isR_cat kv_isR, isR_cat aref_isR]; done)) (Nat.le_refl _) (Nat.le_refl _) ?_
  refine gx_iconst (v := nI 0) hC dX6_forecast_11 ic_0n ?_
  refine gx_istore_n (i := 1) (L' := [_, _]) hC dX6_forecast_12 rfl (Nat.le_of_ble_eq_true rfl) rfl (fun u h9 => by first | exact Or.inl rfl | (cases h9; done) | (right; cases h9; first | rfl | exact isR_cat aref_isR | exact isR_cat kv_isR)) ?_
  have loop_13 : ∀ (k : Nat) (i : Nat) (g : hMem), 600 - i < k → i ≤ 600 → SW g lv c → fcS lv c (600 - i) g = fcS lv c 600 (aC M c) → hG z n X n (putS M 24 g) R 13 [some (.ref (z.1 + 0)), some (.int (nI i))] [] := by
    intro k
    induction k with
    | zero => intros; omega
    | succ k ih =>
      intro i g hk1 hi hg hgg
      refine gx_iload_n (i := 1) hC dX6_forecast_13 rfl rfl ?_
      refine gx_sipush (v := nI 600) hC dX6_forecast_14 sp_600n ?_
      refine gx_icmp_ge (tgt := 44) hC dX6_forecast_17 (by decide) (fun c_17 => ?_) (fun c_17 => ?_)
      · have d_17 := cle (by omega) (by omega) c_17
        exact gx_vret hC hQ dX6_forecast_44 ((by rw [← hgg, show 600 - i = 0 by omega]; rfl)) rfl
      · have d_17 := cnle (by omega) (by omega) c_17
        refine gx_aload_n (i := 0) hC dX6_forecast_20 rfl rfl (by first | exact Or.inr ⟨_, rfl⟩ | exact Or.inl rfl | exact kv_isR | exact aref_isR) ?_
        refine gx_getR hC dX6_forecast_21 fl_X6_16 (by first | exact gG.at0 | exact gG.now.at | exact gG.ahd.at | exact gG.now.ac (by assumption) | exact gG.ahd.ac (by assumption)) rfl (gG.r1) (by decide) ?_
        refine gx_callV1 hC dX6_forecast_24 (c_X4_mayLand _ _ gG.ahd hg) kY_X4_mayLand kV_X4_mayLand ml_X6_195 (by first | exact gG.at0 | exact gG.now.at | exact gG.ahd.at | exact gG.now.ac (by assumption) | exact gG.ahd.ac (by assumption)) rfl (by decide) rfl rfl rfl (by first | exact Nat.le_of_ble_eq_true rfl | (simp [Value.category, isR_cat kv_isR, isR_cat aref_isR]; done)) (Nat.le_refl _) (Nat.le_refl _) ?_
        refine gx_ifb_eq (tgt := 44) hC dX6_forecast_27 (by decide) (fun c_27 => ?_) (fun c_27 => ?_)
        · exact gx_vret hC hQ dX6_forecast_44 ((by rw [← hgg, show 600 - i = (600 - (i + 1)) + 1 by omega, fcS_f c_27])) rfl
        · refine gx_aload_n (i := 0) hC dX6_forecast_30 rfl rfl (by first | exact Or.inr ⟨_, rfl⟩ | exact Or.inl rfl | exact kv_isR | exact aref_isR) ?_
          refine gx_getR hC dX6_forecast_31 fl_X6_16 (by first | exact gG.at0 | exact gG.now.at | exact gG.ahd.at | exact gG.now.ac (by assumption) | exact gG.ahd.ac (by assumption)) rfl (gG.r1) (by decide) ?_
          refine gx_callV1 hC dX6_forecast_34 (c_X4_passMinute _ _ gG.ahd hg) kY_X4_passMinute kV_X4_passMinute ml_X6_198 (by first | exact gG.at0 | exact gG.now.at | exact gG.ahd.at | exact gG.now.ac (by assumption) | exact gG.ahd.ac (by assumption)) rfl (by decide) rfl rfl rfl (by first | exact Nat.le_of_ble_eq_true rfl | (simp [Value.category, isR_cat kv_isR, isR_cat aref_isR]; done)) (Nat.le_refl _) (Nat.le_refl _) ?_
          refine gx_pop hC dX6_forecast_37 (by first | rfl | exact isR_cat kv_isR | exact isR_cat aref_isR) ?_
          refine gx_iinc (i := 1) (L' := [_, _]) hC dX6_forecast_38 rfl (ii_1 _) (Nat.le_of_ble_eq_true rfl) rfl (fun u h9 => by first | exact Or.inl rfl | (cases h9; done) | (right; cases h9; first | rfl | exact isR_cat aref_isR | exact isR_cat kv_isR)) ?_
          refine gx_goto (tgt := 13) hC dX6_forecast_41 (by decide) ?_
          exact ih (i + 1) _ (by omega) (by omega) (SWpass hg) (by rw [← hgg, show 600 - i = (600 - (i + 1)) + 1 by omega, fcS_t c_27])
  exact loop_13 601 0 (aC M c) (by omega) (by omega) (SWcopy hA24 hW) rfl
def hFm (M : hMem) (x : Int32) : Int32 := match sNum (getS M 1) x with
  | none => -6
  | some j => match sNum (getS M 24) x with
    | none => -6
    | some k => if M (24 + (3 + k)) 3 = 1 then (if M (1 + (3 + j)) 3 = 1 then 0 else M (24 + (3 + k)) 7 - M 1 9 + 1) else -6
set_option maxHeartbeats 4000000 in
set_option maxRecDepth 20000 in
theorem c_X6_forecastMinutes (l : Launch) (z : hZt) {n : Nat} {M : hMem} {R : hRef} (gG : GS n R) (x : Int32) : hCt l z m_X6_forecastMinutes [.ref (z.1 + 0), .int x] n M R n (some (.int (hFm M x))) M R := by
  refine hs_start [some (.ref (z.1 + 0)), some (.int x), none, none] (by decide +kernel) rfl (by intro u hu; simp at hu; rcases hu with rfl | rfl <;> first | rfl | exact isR_cat kv_isR | exact isR_cat aref_isR) (Nat.le_of_ble_eq_true rfl) (Nat.le_refl _) (fun X hlX hN hC hQ => ?_)
  dsimp only at hC hQ
  refine gx_aload_n (i := 0) hC dX6_forecastMinutes_0 rfl rfl (by first | exact Or.inr ⟨_, rfl⟩ | exact Or.inl rfl | exact kv_isR | exact aref_isR) ?_
  refine gx_getR hC dX6_forecastMinutes_1 fl_X6_10 (by first | exact gG.at0 | exact gG.now.at | exact gG.ahd.at | exact gG.now.ac (by assumption) | exact gG.ahd.ac (by assumption)) rfl (gG.r0) (by decide) ?_
  refine gx_iload_n (i := 1) hC dX6_forecastMinutes_4 rfl rfl ?_
  refine gx_callV1 hC dX6_forecastMinutes_5 (e_X4_numbered gG.now _) kY_X4_numbered kV_X4_numbered ml_X6_108 (by first | exact gG.at0 | exact gG.now.at | exact gG.ahd.at | exact gG.now.ac (by assumption) | exact gG.ahd.ac (by assumption)) rfl (by decide) rfl rfl rfl (by first | exact Nat.le_of_ble_eq_true rfl | (simp [Value.category, isR_cat kv_isR, isR_cat aref_isR]; done)) (Nat.le_refl _) (Nat.le_refl _) ?_
  refine gx_astore_n (i := 2) (L' := [_, _, _, _]) hC dX6_forecastMinutes_8 rfl (Nat.le_of_ble_eq_true rfl) rfl (fun u h9 => by first | exact Or.inl rfl | (cases h9; done) | (right; cases h9; first | rfl | exact isR_cat aref_isR | exact isR_cat kv_isR)) (by first | exact Or.inr ⟨_, rfl⟩ | exact Or.inl rfl | exact kv_isR | exact aref_isR) ?_
  refine gx_aload_n (i := 0) hC dX6_forecastMinutes_9 rfl rfl (by first | exact Or.inr ⟨_, rfl⟩ | exact Or.inl rfl | exact kv_isR | exact aref_isR) ?_
  refine gx_getR hC dX6_forecastMinutes_10 fl_X6_16 (by first | exact gG.at0 | exact gG.now.at | exact gG.ahd.at | exact gG.now.ac (by assumption) | exact gG.ahd.ac (by assumption)) rfl (gG.r1) (by decide) ?_
  refine gx_iload_n (i := 1) hC dX6_forecastMinutes_13 rfl rfl ?_
  refine gx_callV1 hC dX6_forecastMinutes_14 (e_X4_numbered gG.ahd _) kY_X4_numbered kV_X4_numbered ml_X6_108 (by first | exact gG.at0 | exact gG.now.at | exact gG.ahd.at | exact gG.now.ac (by assumption) | exact gG.ahd.ac (by assumption)) rfl (by decide) rfl rfl rfl (by first | exact Nat.le_of_ble_eq_true rfl | (simp [Value.category, isR_cat kv_isR, isR_cat aref_isR]; done)) (Nat.le_refl _) (Nat.le_refl _) ?_
  refine gx_astore_n (i := 3) (L' := [_, _, _, _]) hC dX6_forecastMinutes_17 rfl (Nat.le_of_ble_eq_true rfl) rfl (fun u h9 => by first | exact Or.inl rfl | (cases h9; done) | (right; cases h9; first | rfl | exact isR_cat aref_isR | exact isR_cat kv_isR)) (by first | exact Or.inr ⟨_, rfl⟩ | exact Or.inl rfl | exact kv_isR | exact aref_isR) ?_
  refine gx_aload_n (i := 2) hC dX6_forecastMinutes_18 rfl rfl (by first | exact Or.inr ⟨_, rfl⟩ | exact Or.inl rfl | exact kv_isR | exact aref_isR) ?_
  refine gx_ifnull_o (tgt := 34) hC dX6_forecastMinutes_19 (by decide) (fun c_19 => ?_) (fun j_19 c_19 => ?_)
  · try simp only [c_19, aref_none]
    refine gx_bipush (v := -6) hC dX6_forecastMinutes_34 bp_m6 ?_
    exact gx_iret hC hQ dX6_forecastMinutes_36 ((by unfold hFm; rw [c_19])) (rfl) rfl
  · have hj_19 := sNum_lt c_19
    simp only [c_19, aref_some]
    refine gx_aload_n (i := 3) hC dX6_forecastMinutes_22 rfl rfl (by first | exact Or.inr ⟨_, rfl⟩ | exact Or.inl rfl | exact kv_isR | exact aref_isR) ?_
    refine gx_ifnull_o (tgt := 34) hC dX6_forecastMinutes_23 (by decide) (fun c_23 => ?_) (fun j_23 c_23 => ?_)
    · try simp only [c_23, aref_none]
      refine gx_bipush (v := -6) hC dX6_forecastMinutes_34 bp_m6 ?_
      exact gx_iret hC hQ dX6_forecastMinutes_36 ((by unfold hFm; rw [c_19]; simp only; rw [c_23])) (rfl) rfl
    · have hj_23 := sNum_lt c_23
      simp only [c_23, aref_some]
      refine gx_aload_n (i := 3) hC dX6_forecastMinutes_26 rfl rfl (by first | exact Or.inr ⟨_, rfl⟩ | exact Or.inl rfl | exact kv_isR | exact aref_isR) ?_
      refine gx_getI hC dX6_forecastMinutes_27 fl_X6_119 (by first | exact gG.at0 | exact gG.now.at | exact gG.ahd.at | exact gG.now.ac (by assumption) | exact gG.ahd.ac (by assumption)) (by decide) (rfl) ?_
      refine gx_iconst (v := 1) hC dX6_forecastMinutes_30 ic_1 ?_
      refine gx_icmp_eq (tgt := 37) hC dX6_forecastMinutes_31 (by decide) (fun c_31 => ?_) (fun c_31 => ?_)
      · refine gx_aload_n (i := 2) hC dX6_forecastMinutes_37 rfl rfl (by first | exact Or.inr ⟨_, rfl⟩ | exact Or.inl rfl | exact kv_isR | exact aref_isR) ?_
        refine gx_getI hC dX6_forecastMinutes_38 fl_X6_119 (by first | exact gG.at0 | exact gG.now.at | exact gG.ahd.at | exact gG.now.ac (by assumption) | exact gG.ahd.ac (by assumption)) (by decide) (rfl) ?_
        refine gx_iconst (v := 1) hC dX6_forecastMinutes_41 ic_1 ?_
        refine gx_icmp_ne (tgt := 49) hC dX6_forecastMinutes_42 (by decide) (fun c_42 => ?_) (fun c_42 => ?_)
        · refine gx_aload_n (i := 3) hC dX6_forecastMinutes_49 rfl rfl (by first | exact Or.inr ⟨_, rfl⟩ | exact Or.inl rfl | exact kv_isR | exact aref_isR) ?_
          refine gx_getI hC dX6_forecastMinutes_50 fl_X6_129 (by first | exact gG.at0 | exact gG.now.at | exact gG.ahd.at | exact gG.now.ac (by assumption) | exact gG.ahd.ac (by assumption)) (by decide) (rfl) ?_
          refine gx_aload_n (i := 0) hC dX6_forecastMinutes_53 rfl rfl (by first | exact Or.inr ⟨_, rfl⟩ | exact Or.inl rfl | exact kv_isR | exact aref_isR) ?_
          refine gx_getR hC dX6_forecastMinutes_54 fl_X6_10 (by first | exact gG.at0 | exact gG.now.at | exact gG.ahd.at | exact gG.now.ac (by assumption) | exact gG.ahd.ac (by assumption)) rfl (gG.r0) (by decide) ?_
          refine gx_getI hC dX6_forecastMinutes_57 fl_X6_136 (by first | exact gG.at0 | exact gG.now.at | exact gG.ahd.at | exact gG.now.ac (by assumption) | exact gG.ahd.ac (by assumption)) (by decide) (rfl) ?_
          refine gx_isub hC dX6_forecastMinutes_60 ?_
          refine gx_iconst (v := 1) hC dX6_forecastMinutes_61 ic_1 ?_
          refine gx_iadd hC dX6_forecastMinutes_62 ?_
          exact gx_iret hC hQ dX6_forecastMinutes_63 ((by unfold hFm; rw [c_19]; simp only; rw [c_23]; simp only; rw [if_pos c_31, if_neg c_42])) (rfl) rfl
        · refine gx_iconst (v := 0) hC dX6_forecastMinutes_45 ic_0 ?_
          refine gx_goto (tgt := 63) hC dX6_forecastMinutes_46 (by decide) ?_
          exact gx_iret hC hQ dX6_forecastMinutes_63 ((by unfold hFm; rw [c_19]; simp only; rw [c_23]; simp only; rw [if_pos c_31, if_pos c_42])) (rfl) rfl
      · refine gx_bipush (v := -6) hC dX6_forecastMinutes_34 bp_m6 ?_
        exact gx_iret hC hQ dX6_forecastMinutes_36 ((by unfold hFm; rw [c_19]; simp only; rw [c_23]; simp only; rw [if_neg c_31])) (rfl) rfl
set_option maxHeartbeats 4000000 in
set_option maxRecDepth 20000 in
theorem c_X6_minutesLeft (l : Launch) (z : hZt) {n : Nat} {M : hMem} {R : hRef} (gG : GS n R) {lv c : Nat} (hW : SW (getS M 1) lv c) (hA24 : KN (getS M 24)) {x : Int32} {j : Nat} (hj : sNum (getS M 1) x = some j) : hCt l z m_X6_minutesLeft [.ref (z.1 + 0), .int x] n M R n (some (.int (hFm (putS M 24 (fcS lv c 600 (aC M c))) x))) (putS M 24 (fcS lv c 600 (aC M c))) R := by
  refine hs_start [some (.ref (z.1 + 0)), some (.int x)] (by decide +kernel) rfl (by intro u hu; simp at hu; rcases hu with rfl | rfl <;> first | rfl | exact isR_cat kv_isR | exact isR_cat aref_isR) (Nat.le_of_ble_eq_true rfl) (Nat.le_refl _) (fun X hlX hN hC hQ => ?_)
  dsimp only at hC hQ
  refine gx_aload_n (i := 0) hC dX6_minutesLeft_0 rfl rfl (by first | exact Or.inr ⟨_, rfl⟩ | exact Or.inl rfl | exact kv_isR | exact aref_isR) ?_
  refine gx_getR hC dX6_minutesLeft_1 fl_X6_10 (by first | exact gG.at0 | exact gG.now.at | exact gG.ahd.at | exact gG.now.ac (by assumption) | exact gG.ahd.ac (by assumption)) rfl (gG.r0) (by decide) ?_
  refine gx_iload_n (i := 1) hC dX6_minutesLeft_4 rfl rfl ?_
  refine gx_callV1 hC dX6_minutesLeft_5 (e_X4_numbered gG.now _) kY_X4_numbered kV_X4_numbered ml_X6_108 (by first | exact gG.at0 | exact gG.now.at | exact gG.ahd.at | exact gG.now.ac (by assumption) | exact gG.ahd.ac (by assumption)) rfl (by decide) rfl rfl rfl (by first | exact Nat.le_of_ble_eq_true rfl | (simp [Value.category, isR_cat kv_isR, isR_cat aref_isR]; done)) (Nat.le_refl _) (Nat.le_refl _) ?_
  refine gx_ifnonnull_o (tgt := 13) hC dX6_minutesLeft_8 (by decide) (fun j_8 c_8 => ?_) (fun c_8 => ?_)
  · try simp only [c_8, aref_some]
    refine gx_aload_n (i := 0) hC dX6_minutesLeft_13 rfl rfl (by first | exact Or.inr ⟨_, rfl⟩ | exact Or.inl rfl | exact kv_isR | exact aref_isR) ?_
    refine gx_callV0 hC dX6_minutesLeft_14 (c_X6_forecast _ _ gG hW hA24) kY_X6_forecast kV_X6_forecast ml_X6_169 (by first | exact gG.at0 | exact gG.now.at | exact gG.ahd.at | exact gG.now.ac (by assumption) | exact gG.ahd.ac (by assumption)) rfl (by decide) rfl rfl rfl (by first | exact Nat.le_of_ble_eq_true rfl | (simp [Value.category, isR_cat kv_isR, isR_cat aref_isR]; done)) (Nat.le_refl _) (Nat.le_refl _) ?_
    refine gx_aload_n (i := 0) hC dX6_minutesLeft_17 rfl rfl (by first | exact Or.inr ⟨_, rfl⟩ | exact Or.inl rfl | exact kv_isR | exact aref_isR) ?_
    refine gx_iload_n (i := 1) hC dX6_minutesLeft_18 rfl rfl ?_
    refine gx_callV1 hC dX6_minutesLeft_19 (c_X6_forecastMinutes _ _ gG _) kY_X6_forecastMinutes kV_X6_forecastMinutes ml_X6_172 (by first | exact gG.at0 | exact gG.now.at | exact gG.ahd.at | exact gG.now.ac (by assumption) | exact gG.ahd.ac (by assumption)) rfl (by decide) rfl rfl rfl (by first | exact Nat.le_of_ble_eq_true rfl | (simp [Value.category, isR_cat kv_isR, isR_cat aref_isR]; done)) (Nat.le_refl _) (Nat.le_refl _) ?_
    exact gx_iret hC hQ dX6_minutesLeft_22 (rfl) (rfl) rfl
  · rw [hj] at c_8; cases c_8
set_option maxHeartbeats 4000000 in
set_option maxRecDepth 20000 in
theorem c0_X6_minutesLeft (l : Launch) (z : hZt) {n : Nat} {M : hMem} {R : hRef} (gG : GS n R) {x : Int32} (hj : sNum (getS M 1) x = none) : hCt l z m_X6_minutesLeft [.ref (z.1 + 0), .int x] n M R n (some (.int (-1))) M R := by
  refine hs_start [some (.ref (z.1 + 0)), some (.int x)] (by decide +kernel) rfl (by intro u hu; simp at hu; rcases hu with rfl | rfl <;> first | rfl | exact isR_cat kv_isR | exact isR_cat aref_isR) (Nat.le_of_ble_eq_true rfl) (Nat.le_refl _) (fun X hlX hN hC hQ => ?_)
  dsimp only at hC hQ
  refine gx_aload_n (i := 0) hC dX6_minutesLeft_0 rfl rfl (by first | exact Or.inr ⟨_, rfl⟩ | exact Or.inl rfl | exact kv_isR | exact aref_isR) ?_
  refine gx_getR hC dX6_minutesLeft_1 fl_X6_10 (by first | exact gG.at0 | exact gG.now.at | exact gG.ahd.at | exact gG.now.ac (by assumption) | exact gG.ahd.ac (by assumption)) rfl (gG.r0) (by decide) ?_
  refine gx_iload_n (i := 1) hC dX6_minutesLeft_4 rfl rfl ?_
  refine gx_callV1 hC dX6_minutesLeft_5 (e_X4_numbered gG.now _) kY_X4_numbered kV_X4_numbered ml_X6_108 (by first | exact gG.at0 | exact gG.now.at | exact gG.ahd.at | exact gG.now.ac (by assumption) | exact gG.ahd.ac (by assumption)) rfl (by decide) rfl rfl rfl (by first | exact Nat.le_of_ble_eq_true rfl | (simp [Value.category, isR_cat kv_isR, isR_cat aref_isR]; done)) (Nat.le_refl _) (Nat.le_refl _) ?_
  refine gx_ifnonnull_o (tgt := 13) hC dX6_minutesLeft_8 (by decide) (fun j_8 c_8 => ?_) (fun c_8 => ?_)
  · rw [hj] at c_8; cases c_8
  · refine gx_iconst (v := -1) hC dX6_minutesLeft_11 ic_m1 ?_
    exact gx_iret hC hQ dX6_minutesLeft_12 (rfl) (rfl) rfl
def hLw (f : hMem) (x : Int32) : Int32 := match sNum f x with
  | none => -6
  | some k => if f (3 + k) 3 = 1 then f (3 + k) 2 else -6
set_option maxHeartbeats 4000000 in
set_option maxRecDepth 20000 in
theorem c_X6_landsWith (l : Launch) (z : hZt) {n : Nat} {M : hMem} {R : hRef} (gG : GS n R) {lv c : Nat} (hW : SW (getS M 1) lv c) (hA24 : KN (getS M 24)) {x : Int32} {j : Nat} (hj : sNum (getS M 1) x = some j) : hCt l z m_X6_landsWith [.ref (z.1 + 0), .int x] n M R n (some (.int (hLw (fcS lv c 600 (aC M c)) x))) (putS M 24 (fcS lv c 600 (aC M c))) R := by
  refine hs_start [some (.ref (z.1 + 0)), some (.int x), none] (by decide +kernel) rfl (by intro u hu; simp at hu; rcases hu with rfl | rfl <;> first | rfl | exact isR_cat kv_isR | exact isR_cat aref_isR) (Nat.le_of_ble_eq_true rfl) (Nat.le_refl _) (fun X hlX hN hC hQ => ?_)
  dsimp only at hC hQ
  refine gx_aload_n (i := 0) hC dX6_landsWith_0 rfl rfl (by first | exact Or.inr ⟨_, rfl⟩ | exact Or.inl rfl | exact kv_isR | exact aref_isR) ?_
  refine gx_getR hC dX6_landsWith_1 fl_X6_10 (by first | exact gG.at0 | exact gG.now.at | exact gG.ahd.at | exact gG.now.ac (by assumption) | exact gG.ahd.ac (by assumption)) rfl (gG.r0) (by decide) ?_
  refine gx_iload_n (i := 1) hC dX6_landsWith_4 rfl rfl ?_
  refine gx_callV1 hC dX6_landsWith_5 (e_X4_numbered gG.now _) kY_X4_numbered kV_X4_numbered ml_X6_108 (by first | exact gG.at0 | exact gG.now.at | exact gG.ahd.at | exact gG.now.ac (by assumption) | exact gG.ahd.ac (by assumption)) rfl (by decide) rfl rfl rfl (by first | exact Nat.le_of_ble_eq_true rfl | (simp [Value.category, isR_cat kv_isR, isR_cat aref_isR]; done)) (Nat.le_refl _) (Nat.le_refl _) ?_
  refine gx_ifnonnull_o (tgt := 13) hC dX6_landsWith_8 (by decide) (fun j_8 c_8 => ?_) (fun c_8 => ?_)
  · refine gx_aload_n (i := 0) hC dX6_landsWith_13 rfl rfl (by first | exact Or.inr ⟨_, rfl⟩ | exact Or.inl rfl | exact kv_isR | exact aref_isR) ?_
    refine gx_callV0 hC dX6_landsWith_14 (c_X6_forecast _ _ gG hW hA24) kY_X6_forecast kV_X6_forecast ml_X6_169 (by first | exact gG.at0 | exact gG.now.at | exact gG.ahd.at | exact gG.now.ac (by assumption) | exact gG.ahd.ac (by assumption)) rfl (by decide) rfl rfl rfl (by first | exact Nat.le_of_ble_eq_true rfl | (simp [Value.category, isR_cat kv_isR, isR_cat aref_isR]; done)) (Nat.le_refl _) (Nat.le_refl _) ?_
    refine gx_aload_n (i := 0) hC dX6_landsWith_17 rfl rfl (by first | exact Or.inr ⟨_, rfl⟩ | exact Or.inl rfl | exact kv_isR | exact aref_isR) ?_
    refine gx_getR hC dX6_landsWith_18 fl_X6_16 (by first | exact gG.at0 | exact gG.now.at | exact gG.ahd.at | exact gG.now.ac (by assumption) | exact gG.ahd.ac (by assumption)) rfl (gG.r1) (by decide) ?_
    refine gx_iload_n (i := 1) hC dX6_landsWith_21 rfl rfl ?_
    refine gx_callV1 hC dX6_landsWith_22 (c_X4_numbered _ _ gG.ahd _) kY_X4_numbered kV_X4_numbered ml_X6_108 (by first | exact gG.at0 | exact gG.now.at | exact gG.ahd.at | exact gG.now.ac (by assumption) | exact gG.ahd.ac (by assumption)) rfl (by decide) rfl rfl rfl (by first | exact Nat.le_of_ble_eq_true rfl | (simp [Value.category, isR_cat kv_isR, isR_cat aref_isR]; done)) (Nat.le_refl _) (Nat.le_refl _) ?_
    refine gx_astore_n (i := 2) (L' := [_, _, _]) hC dX6_landsWith_25 rfl (Nat.le_of_ble_eq_true rfl) rfl (fun u h9 => by first | exact Or.inl rfl | (cases h9; done) | (right; cases h9; first | rfl | exact isR_cat aref_isR | exact isR_cat kv_isR)) (by first | exact Or.inr ⟨_, rfl⟩ | exact Or.inl rfl | exact kv_isR | exact aref_isR) ?_
    refine gx_aload_n (i := 2) hC dX6_landsWith_26 rfl rfl (by first | exact Or.inr ⟨_, rfl⟩ | exact Or.inl rfl | exact kv_isR | exact aref_isR) ?_
    refine gx_ifnull_o (tgt := 45) hC dX6_landsWith_27 (by decide) (fun c_27 => ?_) (fun j_27 c_27 => ?_)
    · try simp only [c_27, aref_none]
      refine gx_bipush (v := -6) hC dX6_landsWith_45 bp_m6 ?_
      exact gx_iret hC hQ dX6_landsWith_47 ((by unfold hLw; rw [c_27])) (rfl) rfl
    · have hj_27 := sNum_lt c_27
      simp only [c_27, aref_some]
      refine gx_aload_n (i := 2) hC dX6_landsWith_30 rfl rfl (by first | exact Or.inr ⟨_, rfl⟩ | exact Or.inl rfl | exact kv_isR | exact aref_isR) ?_
      refine gx_getI hC dX6_landsWith_31 fl_X6_119 (by first | exact gG.at0 | exact gG.now.at | exact gG.ahd.at | exact gG.now.ac (by assumption) | exact gG.ahd.ac (by assumption)) (by decide) (pSj (by omega)) ?_
      refine gx_iconst (v := 1) hC dX6_landsWith_34 ic_1 ?_
      refine gx_icmp_ne (tgt := 45) hC dX6_landsWith_35 (by decide) (fun c_35 => ?_) (fun c_35 => ?_)
      · refine gx_bipush (v := -6) hC dX6_landsWith_45 bp_m6 ?_
        exact gx_iret hC hQ dX6_landsWith_47 ((by unfold hLw; rw [c_27]; simp only; rw [if_neg c_35])) (rfl) rfl
      · refine gx_aload_n (i := 2) hC dX6_landsWith_38 rfl rfl (by first | exact Or.inr ⟨_, rfl⟩ | exact Or.inl rfl | exact kv_isR | exact aref_isR) ?_
        refine gx_getI hC dX6_landsWith_39 fl_X6_116 (by first | exact gG.at0 | exact gG.now.at | exact gG.ahd.at | exact gG.now.ac (by assumption) | exact gG.ahd.ac (by assumption)) (by decide) (pSj (by omega)) ?_
        refine gx_goto (tgt := 47) hC dX6_landsWith_42 (by decide) ?_
        exact gx_iret hC hQ dX6_landsWith_47 ((by unfold hLw; rw [c_27]; simp only; rw [if_pos c_35])) (rfl) rfl
  · rw [hj] at c_8; cases c_8
set_option maxHeartbeats 4000000 in
set_option maxRecDepth 20000 in
theorem c0_X6_landsWith (l : Launch) (z : hZt) {n : Nat} {M : hMem} {R : hRef} (gG : GS n R) {x : Int32} (hj : sNum (getS M 1) x = none) : hCt l z m_X6_landsWith [.ref (z.1 + 0), .int x] n M R n (some (.int (-1))) M R := by
  refine hs_start [some (.ref (z.1 + 0)), some (.int x), none] (by decide +kernel) rfl (by intro u hu; simp at hu; rcases hu with rfl | rfl <;> first | rfl | exact isR_cat kv_isR | exact isR_cat aref_isR) (Nat.le_of_ble_eq_true rfl) (Nat.le_refl _) (fun X hlX hN hC hQ => ?_)
  dsimp only at hC hQ
  refine gx_aload_n (i := 0) hC dX6_landsWith_0 rfl rfl (by first | exact Or.inr ⟨_, rfl⟩ | exact Or.inl rfl | exact kv_isR | exact aref_isR) ?_
  refine gx_getR hC dX6_landsWith_1 fl_X6_10 (by first | exact gG.at0 | exact gG.now.at | exact gG.ahd.at | exact gG.now.ac (by assumption) | exact gG.ahd.ac (by assumption)) rfl (gG.r0) (by decide) ?_
  refine gx_iload_n (i := 1) hC dX6_landsWith_4 rfl rfl ?_
  refine gx_callV1 hC dX6_landsWith_5 (e_X4_numbered gG.now _) kY_X4_numbered kV_X4_numbered ml_X6_108 (by first | exact gG.at0 | exact gG.now.at | exact gG.ahd.at | exact gG.now.ac (by assumption) | exact gG.ahd.ac (by assumption)) rfl (by decide) rfl rfl rfl (by first | exact Nat.le_of_ble_eq_true rfl | (simp [Value.category, isR_cat kv_isR, isR_cat aref_isR]; done)) (Nat.le_refl _) (Nat.le_refl _) ?_
  refine gx_ifnonnull_o (tgt := 13) hC dX6_landsWith_8 (by decide) (fun j_8 c_8 => ?_) (fun c_8 => ?_)
  · rw [hj] at c_8; cases c_8
  · refine gx_iconst (v := -1) hC dX6_landsWith_11 ic_m1 ?_
    exact gx_iret hC hQ dX6_landsWith_12 (rfl) (rfl) rfl
def laS (lv c : Nat) (x : Int32) : Nat → Int32 → hMem → Int32 × hMem
  | 0, _, f => (-6, f)
  | k + 1, b, f => if bMay f c = true then (if (sPass f lv).1 = -6 then laS lv c x k b (sPass f lv).2 else if b = x then sPass f lv else laS lv c x k (b + 1) (sPass f lv).2) else (-6, f)
theorem laS_f {lv c k : Nat} {x b : Int32} {f : hMem} (h : bMay f c = false) : laS lv c x (k + 1) b f = (-6, f) := by rw [laS, h]; rfl
theorem laS_n {lv c k : Nat} {x b : Int32} {f : hMem} (h : bMay f c = true) (h1 : (sPass f lv).1 = -6) : laS lv c x (k + 1) b f = laS lv c x k b (sPass f lv).2 := by rw [laS, if_pos h, if_pos h1]
theorem laS_e {lv c k : Nat} {x b : Int32} {f : hMem} (h : bMay f c = true) (h1 : ¬ (sPass f lv).1 = -6) (h2 : b = x) : laS lv c x (k + 1) b f = sPass f lv := by rw [laS, if_pos h, if_neg h1, if_pos h2]
theorem laS_s {lv c k : Nat} {x b : Int32} {f : hMem} (h : bMay f c = true) (h1 : ¬ (sPass f lv).1 = -6) (h2 : ¬ b = x) : laS lv c x (k + 1) b f = laS lv c x k (b + 1) (sPass f lv).2 := by rw [laS, if_pos h, if_neg h1, if_neg h2]
set_option maxHeartbeats 4000000 in
set_option maxRecDepth 20000 in
theorem c_X6_lands (l : Launch) (z : hZt) {n : Nat} {M : hMem} {R : hRef} (gG : GS n R) {lv c : Nat} (hW : SW (getS M 1) lv c) (hA24 : KN (getS M 24)) {x : Int32} (h0 : 0 ≤ x) : hCt l z m_X6_lands [.ref (z.1 + 0), .int x] n M R n (some (.int (laS lv c x 600 0 (aC M c)).1)) (putS M 24 (laS lv c x 600 0 (aC M c)).2) R := by
  refine hs_start [some (.ref (z.1 + 0)), some (.int x), none, none, none] (by decide +kernel) rfl (by intro u hu; simp at hu; rcases hu with rfl | rfl <;> first | rfl | exact isR_cat kv_isR | exact isR_cat aref_isR) (Nat.le_of_ble_eq_true rfl) (Nat.le_refl _) (fun X hlX hN hC hQ => ?_)
  dsimp only at hC hQ
  refine gx_iload_n (i := 1) hC dX6_lands_0 rfl rfl ?_
  refine gx_if_ge (tgt := 6) hC dX6_lands_1 (by decide) (fun c_1 => ?_) (fun c_1 => ?_)
  · refine gx_aload_n (i := 0) hC dX6_lands_6 rfl rfl (by first | exact Or.inr ⟨_, rfl⟩ | exact Or.inl rfl | exact kv_isR | exact aref_isR) ?_
    refine gx_getR hC dX6_lands_7 fl_X6_16 (by first | exact gG.at0 | exact gG.now.at | exact gG.ahd.at | exact gG.now.ac (by assumption) | exact gG.ahd.ac (by assumption)) rfl (gG.r1) (by decide) ?_
    refine gx_aload_n (i := 0) hC dX6_lands_10 rfl rfl (by first | exact Or.inr ⟨_, rfl⟩ | exact Or.inl rfl | exact kv_isR | exact aref_isR) ?_
    refine gx_getR hC dX6_lands_11 fl_X6_10 (by first | exact gG.at0 | exact gG.now.at | exact gG.ahd.at | exact gG.now.ac (by assumption) | exact gG.ahd.ac (by assumption)) rfl (gG.r0) (by decide) ?_
    refine gx_callV0 hC dX6_lands_14 (d_X4_copyFrom gG.ahd gG.now (Or.inl (by decide)) (c1_of hW) hW.c20) kY_X4_copyFrom kV_X4_copyFrom ml_X6_188 (by first | exact gG.at0 | exact gG.now.at | exact gG.ahd.at | exact gG.now.ac (by assumption) | exact gG.ahd.ac (by assumption)) rfl (by decide) rfl rfl rfl (by first | exact Nat.le_of_ble_eq_true rfl | (simp [Value.category, isR_cat kv_isR, isR_cat aref_isR]; done)) (Nat.le_refl _) (Nat.le_refl _) ?_
    refine gx_iconst (v := 0) hC dX6_lands_17 ic_0 ?_
    refine gx_istore_n (i := 2) (L' := [_, _, _, _, _]) hC dX6_lands_18 rfl (Nat.le_of_ble_eq_true rfl) rfl (fun u h9 => by first | exact Or.inl rfl | (cases h9; done) | (right; cases h9; first | rfl | exact isR_cat aref_isR | exact isR_cat kv_isR)) ?_
    refine gx_iconst (v := nI 0) hC dX6_lands_19 ic_0n ?_
    refine gx_istore_n (i := 3) (L' := [_, _, _, _, _]) hC dX6_lands_20 rfl (Nat.le_of_ble_eq_true rfl) rfl (fun u h9 => by first | exact Or.inl rfl | (cases h9; done) | (right; cases h9; first | rfl | exact isR_cat aref_isR | exact isR_cat kv_isR)) ?_
    have loop_21 : ∀ (k : Nat) (i : Nat) (b : Int32) (g : hMem) (w : Option Value), 600 - i < k → i ≤ 600 → SW g lv c → laS lv c x (600 - i) b g = laS lv c x 600 0 (aC M c) → hG z n X n (putS M 24 g) R 21 [some (.ref (z.1 + 0)), some (.int x), some (.int b), some (.int (nI i)), w] [] := by
      intro k
      induction k with
      | zero => intros; omega
      | succ k ih =>
        intro i b g w hk1 hi hg hgg
        refine gx_iload_n (i := 3) hC dX6_lands_21 rfl rfl ?_
        refine gx_sipush (v := nI 600) hC dX6_lands_22 sp_600n ?_
        refine gx_icmp_ge (tgt := 71) hC dX6_lands_25 (by decide) (fun c_25 => ?_) (fun c_25 => ?_)
        · have d_25 := cle (by omega) (by omega) c_25
          refine gx_bipush (v := -6) hC dX6_lands_71 bp_m6 ?_
          exact gx_iret hC hQ dX6_lands_73 ((by rw [← hgg, show 600 - i = 0 by omega]; rfl)) ((by rw [← hgg, show 600 - i = 0 by omega]; rfl)) rfl
        · have d_25 := cnle (by omega) (by omega) c_25
          refine gx_aload_n (i := 0) hC dX6_lands_28 rfl rfl (by first | exact Or.inr ⟨_, rfl⟩ | exact Or.inl rfl | exact kv_isR | exact aref_isR) ?_
          refine gx_getR hC dX6_lands_29 fl_X6_16 (by first | exact gG.at0 | exact gG.now.at | exact gG.ahd.at | exact gG.now.ac (by assumption) | exact gG.ahd.ac (by assumption)) rfl (gG.r1) (by decide) ?_
          refine gx_callV1 hC dX6_lands_32 (c_X4_mayLand _ _ gG.ahd hg) kY_X4_mayLand kV_X4_mayLand ml_X6_195 (by first | exact gG.at0 | exact gG.now.at | exact gG.ahd.at | exact gG.now.ac (by assumption) | exact gG.ahd.ac (by assumption)) rfl (by decide) rfl rfl rfl (by first | exact Nat.le_of_ble_eq_true rfl | (simp [Value.category, isR_cat kv_isR, isR_cat aref_isR]; done)) (Nat.le_refl _) (Nat.le_refl _) ?_
          refine gx_ifb_eq (tgt := 71) hC dX6_lands_35 (by decide) (fun c_35 => ?_) (fun c_35 => ?_)
          · refine gx_bipush (v := -6) hC dX6_lands_71 bp_m6 ?_
            exact gx_iret hC hQ dX6_lands_73 ((by rw [← hgg, show 600 - i = (600 - (i + 1)) + 1 by omega, laS_f c_35])) ((by rw [← hgg, show 600 - i = (600 - (i + 1)) + 1 by omega, laS_f c_35])) rfl
          · refine gx_aload_n (i := 0) hC dX6_lands_38 rfl rfl (by first | exact Or.inr ⟨_, rfl⟩ | exact Or.inl rfl | exact kv_isR | exact aref_isR) ?_
            refine gx_getR hC dX6_lands_39 fl_X6_16 (by first | exact gG.at0 | exact gG.now.at | exact gG.ahd.at | exact gG.now.ac (by assumption) | exact gG.ahd.ac (by assumption)) rfl (gG.r1) (by decide) ?_
            refine gx_callV1 hC dX6_lands_42 (c_X4_passMinute _ _ gG.ahd hg) kY_X4_passMinute kV_X4_passMinute ml_X6_198 (by first | exact gG.at0 | exact gG.now.at | exact gG.ahd.at | exact gG.now.ac (by assumption) | exact gG.ahd.ac (by assumption)) rfl (by decide) rfl rfl rfl (by first | exact Nat.le_of_ble_eq_true rfl | (simp [Value.category, isR_cat kv_isR, isR_cat aref_isR]; done)) (Nat.le_refl _) (Nat.le_refl _) ?_
            refine gx_istore (i := 4) (L' := [_, _, _, _, _]) hC dX6_lands_45 (Nat.le_of_ble_eq_true rfl) rfl (fun u h9 => by first | exact Or.inl rfl | (cases h9; done) | (right; cases h9; first | rfl | exact isR_cat aref_isR | exact isR_cat kv_isR)) ?_
            refine gx_iload hC dX6_lands_47 rfl ?_
            refine gx_bipush (v := -6) hC dX6_lands_49 bp_m6 ?_
            refine gx_icmp_eq (tgt := 65) hC dX6_lands_51 (by decide) (fun c_51 => ?_) (fun c_51 => ?_)
            · refine gx_iinc (i := 3) (L' := [_, _, _, _, _]) hC dX6_lands_65 rfl (ii_1 _) (Nat.le_of_ble_eq_true rfl) rfl (fun u h9 => by first | exact Or.inl rfl | (cases h9; done) | (right; cases h9; first | rfl | exact isR_cat aref_isR | exact isR_cat kv_isR)) ?_
              refine gx_goto (tgt := 21) hC dX6_lands_68 (by decide) ?_
              exact ih (i + 1) _ _ _ (by omega) (by omega) (SWpass hg) (by rw [← hgg, show 600 - i = (600 - (i + 1)) + 1 by omega, laS_n c_35 c_51]; try rfl)
            · refine gx_iload_n (i := 2) hC dX6_lands_54 rfl rfl ?_
              refine gx_iload_n (i := 1) hC dX6_lands_55 rfl rfl ?_
              refine gx_icmp_ne (tgt := 62) hC dX6_lands_56 (by decide) (fun c_56 => ?_) (fun c_56 => ?_)
              · refine gx_iinc (i := 2) (L' := [_, _, _, _, _]) hC dX6_lands_62 rfl rfl (Nat.le_of_ble_eq_true rfl) rfl (fun u h9 => by first | exact Or.inl rfl | (cases h9; done) | (right; cases h9; first | rfl | exact isR_cat aref_isR | exact isR_cat kv_isR)) ?_
                refine gx_iinc (i := 3) (L' := [_, _, _, _, _]) hC dX6_lands_65 rfl (ii_1 _) (Nat.le_of_ble_eq_true rfl) rfl (fun u h9 => by first | exact Or.inl rfl | (cases h9; done) | (right; cases h9; first | rfl | exact isR_cat aref_isR | exact isR_cat kv_isR)) ?_
                refine gx_goto (tgt := 21) hC dX6_lands_68 (by decide) ?_
                exact ih (i + 1) _ _ _ (by omega) (by omega) (SWpass hg) (by rw [← hgg, show 600 - i = (600 - (i + 1)) + 1 by omega, laS_s c_35 c_51 c_56]; try rfl)
              · refine gx_iload hC dX6_lands_59 rfl ?_
                exact gx_iret hC hQ dX6_lands_61 ((by rw [← hgg, show 600 - i = (600 - (i + 1)) + 1 by omega, laS_e c_35 c_51 c_56])) ((by rw [← hgg, show 600 - i = (600 - (i + 1)) + 1 by omega, laS_e c_35 c_51 c_56])) rfl
    exact loop_21 601 0 0 (aC M c) _ (by omega) (by omega) (SWcopy hA24 hW) rfl
  · exact absurd h0 c_1
set_option maxHeartbeats 4000000 in
set_option maxRecDepth 20000 in
theorem c0_X6_lands (l : Launch) (z : hZt) {n : Nat} {M : hMem} {R : hRef} (gG : GS n R) {x : Int32} (h0 : x < 0) : hCt l z m_X6_lands [.ref (z.1 + 0), .int x] n M R n (some (.int (-1))) M R := by
  refine hs_start [some (.ref (z.1 + 0)), some (.int x), none, none, none] (by decide +kernel) rfl (by intro u hu; simp at hu; rcases hu with rfl | rfl <;> first | rfl | exact isR_cat kv_isR | exact isR_cat aref_isR) (Nat.le_of_ble_eq_true rfl) (Nat.le_refl _) (fun X hlX hN hC hQ => ?_)
  dsimp only at hC hQ
  refine gx_iload_n (i := 1) hC dX6_lands_0 rfl rfl ?_
  refine gx_if_ge (tgt := 6) hC dX6_lands_1 (by decide) (fun c_1 => ?_) (fun c_1 => ?_)
  · exact absurd c_1 (Int32.not_le.mpr h0)
  · refine gx_iconst (v := -1) hC dX6_lands_4 ic_m1 ?_
    exact gx_iret hC hQ dX6_lands_5 (rfl) (rfl) rfl
