/-! the state's contracts over a whole memory -/
theorem e_X4_hasLevel {l : Launch} {z : hZt} {n : Nat} {M : hMem} {R : hRef} {o : Nat} (hS : hSt n R o) (x : Int32) : hCt l z m_X4_hasLevel [.ref (z.1 + o), .int x] n M R n (some (.int (b2 (bHas (getS M o) x)))) M R := by
  have h := c_X4_hasLevel l z (M := M) (R := R) (f := getS M o) hS x
  simp only [putS_get] at h
  exact h
theorem e_X4_numbered {l : Launch} {z : hZt} {n : Nat} {M : hMem} {R : hRef} {o : Nat} (hS : hSt n R o) (x : Int32) : hCt l z m_X4_numbered [.ref (z.1 + o), .int x] n M R n (some (aref z o (sNum (getS M o) x))) M R := by
  have h := c_X4_numbered l z (M := M) (R := R) (f := getS M o) hS x
  simp only [putS_get] at h
  exact h
theorem e_X4_holderOf {l : Launch} {z : hZt} {n : Nat} {M : hMem} {R : hRef} {o : Nat} (hS : hSt n R o) (x : Int32) : hCt l z m_X4_holderOf [.ref (z.1 + o), .int x] n M R n (some (aref z o (sHold (getS M o) x))) M R := by
  have h := c_X4_holderOf l z (M := M) (R := R) (f := getS M o) hS x
  simp only [putS_get] at h
  exact h
theorem e_X4_isFree {l : Launch} {z : hZt} {n : Nat} {M : hMem} {R : hRef} {o : Nat} (hS : hSt n R o) (x : Int32) : hCt l z m_X4_isFree [.ref (z.1 + o), .int x] n M R n (some (.int (b2 (bFree (getS M o) x)))) M R := by
  have h := c_X4_isFree l z (M := M) (R := R) (f := getS M o) hS x
  simp only [putS_get] at h
  exact h
theorem e_X4_isFull {l : Launch} {z : hZt} {n : Nat} {M : hMem} {R : hRef} {o : Nat} (hS : hSt n R o) : hCt l z m_X4_isFull [.ref (z.1 + o)] n M R n (some (.int (b2 (bFull (getS M o))))) M R := by
  have h := c_X4_isFull l z (M := M) (R := R) (f := getS M o) hS
  simp only [putS_get] at h
  exact h
theorem e_X4_countOf {l : Launch} {z : hZt} {n : Nat} {M : hMem} {R : hRef} {o : Nat} (hS : hSt n R o) {lv c : Nat} (hW : SW (getS M o) lv c) (x : Int32) : hCt l z m_X4_countOf [.ref (z.1 + o), .int x] n M R n (some (.int (sCnt (getS M o) x c))) M R := by
  have h := c_X4_countOf l z (M := M) (R := R) (f := getS M o) hS hW x
  simp only [putS_get] at h
  exact h
theorem e_X4_refusal {l : Launch} {z : hZt} {n : Nat} {M : hMem} {R : hRef} {o : Nat} (hS : hSt n R o) {lv c : Nat} (hW : SW (getS M o) lv c) (kd fuel lev : Int32) (hkd : hk kd) : hCt l z m_X4_refusal [.ref (z.1 + o), kv z.2.1 kd, .int fuel, .int lev] n M R n (some (.int (sRef (getS M o) c kd fuel lev))) M R := by
  have h := c_X4_refusal l z (M := M) (R := R) (f := getS M o) hS hW kd fuel lev hkd
  simp only [putS_get] at h
  exact h
theorem e_X4_admit {l : Launch} {z : hZt} {n : Nat} {M : hMem} {R : hRef} {o : Nat} (hS : hSt n R o) {lv c : Nat} (hW : SW (getS M o) lv c) (hc : c < 20) (kd fuel lev : Int32) : hCt l z m_X4_admit [.ref (z.1 + o), kv z.2.1 kd, .int fuel, .int lev] n M R n (some (.int (nI c))) (putS M o (sAdm (getS M o) c kd fuel lev)) R := by
  have h := c_X4_admit l z (M := M) (R := R) (f := getS M o) hS hW hc kd fuel lev
  simp only [putS_get] at h
  exact h
theorem e_X4_markCalled {l : Launch} {z : hZt} {n : Nat} {M : hMem} {R : hRef} {o : Nat} (hS : hSt n R o) {j : Nat} (x : Int32) (hj : sNum (getS M o) x = some j) : hCt l z m_X4_markCalled [.ref (z.1 + o), .int x] n M R n (some (.int ((getS M o) (3 + j) 4))) (putS M o (up2 (getS M o) (3 + j) 6 1)) R := by
  have h := c_X4_markCalled l z (M := M) (R := R) (f := getS M o) hS x hj
  simp only [putS_get] at h
  exact h
theorem e_X4_mayLand {l : Launch} {z : hZt} {n : Nat} {M : hMem} {R : hRef} {o : Nat} (hS : hSt n R o) {lv c : Nat} (hW : SW (getS M o) lv c) : hCt l z m_X4_mayLand [.ref (z.1 + o)] n M R n (some (.int (b2 (bMay (getS M o) c)))) M R := by
  have h := c_X4_mayLand l z (M := M) (R := R) (f := getS M o) hS hW
  simp only [putS_get] at h
  exact h
theorem e_X4_passMinute {l : Launch} {z : hZt} {n : Nat} {M : hMem} {R : hRef} {o : Nat} (hS : hSt n R o) {lv c : Nat} (hW : SW (getS M o) lv c) : hCt l z m_X4_passMinute [.ref (z.1 + o)] n M R n (some (.int (sPass (getS M o) lv).1)) (putS M o (sPass (getS M o) lv).2) R := by
  have h := c_X4_passMinute l z (M := M) (R := R) (f := getS M o) hS hW
  simp only [putS_get] at h
  exact h
theorem e_X4_passMinutes {l : Launch} {z : hZt} {n : Nat} {M : hMem} {R : hRef} {o : Nat} (hS : hSt n R o) {lv c : Nat} (hW : SW (getS M o) lv c) (x : Int32) : hCt l z m_X4_passMinutes [.ref (z.1 + o), .int x] n M R n (some (.int (sMin (getS M o) lv x.toNatClampNeg).1)) (putS M o (sMin (getS M o) lv x.toNatClampNeg).2) R := by
  have h := c_X4_passMinutes l z (M := M) (R := R) (f := getS M o) hS hW x
  simp only [putS_get] at h
  exact h
theorem e_X4_minutesToLanding {l : Launch} {z : hZt} {n : Nat} {M : hMem} {R : hRef} {o : Nat} (hS : hSt n R o) {lv c : Nat} (hW : SW (getS M o) lv c) (num : Int32) {m : Nat} (hm : m < 1000) : hCt l z m_X4_minutesToLanding [.ref (z.1 + o), .int num, .int (nI m)] n M R n (some (.int (sTo lv c num m 0 (getS M o)).1)) (putS M o (sTo lv c num m 0 (getS M o)).2) R := by
  have h := c_X4_minutesToLanding l z (M := M) (R := R) (f := getS M o) hS hW num hm
  simp only [putS_get] at h
  exact h
theorem e_X4_changeLap {l : Launch} {z : hZt} {n : Nat} {M : hMem} {R : hRef} {o : Nat} (hS : hSt n R o) {lv c : Nat} (hW : SW (getS M o) lv c) (x : Int32) : hCt l z m_X4_changeLap [.ref (z.1 + o), .int x] n M R n none (putS M o (sLap (getS M o) lv x)) R := by
  have h := c_X4_changeLap l z (M := M) (R := R) (f := getS M o) hS hW x
  simp only [putS_get] at h
  exact h
theorem e_X4_beginAnew {l : Launch} {z : hZt} {n : Nat} {M : hMem} {R : hRef} {o : Nat} (hS : hSt n R o) (lev : Int32) : hCt l z m_X4_beginAnew [.ref (z.1 + o), .int lev] n M R n none (putS M o (sNew (getS M o) lev)) R := by
  have h := c_X4_beginAnew l z (M := M) (R := R) (f := getS M o) hS lev
  simp only [putS_get] at h
  exact h
set_option maxHeartbeats 4000000 in
set_option maxRecDepth 20000 in
theorem c_X6_asNumber (l : Launch) (z : hZt) {n : Nat} {M : hMem} {R : hRef} {x : Int32} (hx : x = 0 ∨ x = 1) : hCt l z m_X6_asNumber [.int x] n M R n (some (.int x)) M R := by
  refine hs_start [some (.int x)] (by decide +kernel) rfl (by intro u hu; simp at hu; subst hu <;> first | rfl | exact isR_cat kv_isR | exact isR_cat aref_isR) (Nat.le_of_ble_eq_true rfl) (Nat.le_refl _) (fun X hlX hN hC hQ => ?_)
  dsimp only at hC hQ
  refine gx_iload_n (i := 0) hC dX6_asNumber_0 rfl rfl ?_
  refine gx_if_eq (tgt := 8) hC dX6_asNumber_1 (by decide) (fun c_1 => ?_) (fun c_1 => ?_)
  · refine gx_iconst (v := 0) hC dX6_asNumber_8 ic_0 ?_
    exact gx_iret hC hQ dX6_asNumber_9 (by first | (rw [c_1]; done) | (rw [hx.resolve_left c_1])) (rfl) rfl
  · refine gx_iconst (v := 1) hC dX6_asNumber_4 ic_1 ?_
    refine gx_goto (tgt := 9) hC dX6_asNumber_5 (by decide) ?_
    exact gx_iret hC hQ dX6_asNumber_9 (by first | (rw [c_1]; done) | (rw [hx.resolve_left c_1])) (rfl) rfl
def bFuel (x : Int32) : Bool := decide (1 ≤ x ∧ x ≤ 9999)
theorem i32c_9999 : (9999 : Int32).toInt = 9999 := by decide
set_option maxHeartbeats 4000000 in
set_option maxRecDepth 20000 in
theorem c_X6_isFuel (l : Launch) (z : hZt) {n : Nat} {M : hMem} {R : hRef} (x : Int32) : hCt l z m_X6_isFuel [.int x] n M R n (some (.int (b2 (bFuel x)))) M R := by
  refine hs_start [some (.int x)] (by decide +kernel) rfl (by intro u hu; simp at hu; subst hu <;> first | rfl | exact isR_cat kv_isR | exact isR_cat aref_isR) (Nat.le_of_ble_eq_true rfl) (Nat.le_refl _) (fun X hlX hN hC hQ => ?_)
  dsimp only at hC hQ
  refine gx_iload_n (i := 0) hC dX6_isFuel_0 rfl rfl ?_
  refine gx_iconst (v := 1) hC dX6_isFuel_1 ic_1 ?_
  refine gx_icmp_lt (tgt := 16) hC dX6_isFuel_2 (by decide) (fun c_2 => ?_) (fun c_2 => ?_)
  · refine gx_iconst (v := 0) hC dX6_isFuel_16 ic_0 ?_
    exact gx_zret hC hQ dX6_isFuel_17 (by first | exact Or.inl rfl | exact Or.inr rfl | exact b2_bit _ | assumption) (by first | exact bv1 (by unfold bFuel; exact decide_eq_true (by (clear hQ hC hN hlX; simp only [Int32.le_iff_toInt_le, Int32.lt_iff_toInt_lt, Int32.not_le, Int32.not_lt, ← Int32.toInt_inj, i32c_0, i32c_1, i32c_2, i32c_3, i32c_4, i32c_5, i32c_6, i32c_7, i32c_8, i32c_9, i32c_16, i32c_20, i32c_99, i32c_m1, i32c_m6, ni_16, ni_20, ni_80, ni_2, ni_5, ni_0, ne_eq, i32c_9999] at *; omega))) | exact bv0 (by unfold bFuel; exact decide_eq_false (by (clear hQ hC hN hlX; simp only [Int32.le_iff_toInt_le, Int32.lt_iff_toInt_lt, Int32.not_le, Int32.not_lt, ← Int32.toInt_inj, i32c_0, i32c_1, i32c_2, i32c_3, i32c_4, i32c_5, i32c_6, i32c_7, i32c_8, i32c_9, i32c_16, i32c_20, i32c_99, i32c_m1, i32c_m6, ni_16, ni_20, ni_80, ni_2, ni_5, ni_0, ne_eq, i32c_9999] at *; omega)))) (rfl) rfl
  · refine gx_iload_n (i := 0) hC dX6_isFuel_5 rfl rfl ?_
    refine gx_sipush (v := 9999) hC dX6_isFuel_6 sp_9999 ?_
    refine gx_icmp_gt (tgt := 16) hC dX6_isFuel_9 (by decide) (fun c_9 => ?_) (fun c_9 => ?_)
    · refine gx_iconst (v := 0) hC dX6_isFuel_16 ic_0 ?_
      exact gx_zret hC hQ dX6_isFuel_17 (by first | exact Or.inl rfl | exact Or.inr rfl | exact b2_bit _ | assumption) (by first | exact bv1 (by unfold bFuel; exact decide_eq_true (by (clear hQ hC hN hlX; simp only [Int32.le_iff_toInt_le, Int32.lt_iff_toInt_lt, Int32.not_le, Int32.not_lt, ← Int32.toInt_inj, i32c_0, i32c_1, i32c_2, i32c_3, i32c_4, i32c_5, i32c_6, i32c_7, i32c_8, i32c_9, i32c_16, i32c_20, i32c_99, i32c_m1, i32c_m6, ni_16, ni_20, ni_80, ni_2, ni_5, ni_0, ne_eq, i32c_9999] at *; omega))) | exact bv0 (by unfold bFuel; exact decide_eq_false (by (clear hQ hC hN hlX; simp only [Int32.le_iff_toInt_le, Int32.lt_iff_toInt_lt, Int32.not_le, Int32.not_lt, ← Int32.toInt_inj, i32c_0, i32c_1, i32c_2, i32c_3, i32c_4, i32c_5, i32c_6, i32c_7, i32c_8, i32c_9, i32c_16, i32c_20, i32c_99, i32c_m1, i32c_m6, ni_16, ni_20, ni_80, ni_2, ni_5, ni_0, ne_eq, i32c_9999] at *; omega)))) (rfl) rfl
    · refine gx_iconst (v := 1) hC dX6_isFuel_12 ic_1 ?_
      refine gx_goto (tgt := 17) hC dX6_isFuel_13 (by decide) ?_
      exact gx_zret hC hQ dX6_isFuel_17 (by first | exact Or.inl rfl | exact Or.inr rfl | exact b2_bit _ | assumption) (by first | exact bv1 (by unfold bFuel; exact decide_eq_true (by (clear hQ hC hN hlX; simp only [Int32.le_iff_toInt_le, Int32.lt_iff_toInt_lt, Int32.not_le, Int32.not_lt, ← Int32.toInt_inj, i32c_0, i32c_1, i32c_2, i32c_3, i32c_4, i32c_5, i32c_6, i32c_7, i32c_8, i32c_9, i32c_16, i32c_20, i32c_99, i32c_m1, i32c_m6, ni_16, ni_20, ni_80, ni_2, ni_5, ni_0, ne_eq, i32c_9999] at *; omega))) | exact bv0 (by unfold bFuel; exact decide_eq_false (by (clear hQ hC hN hlX; simp only [Int32.le_iff_toInt_le, Int32.lt_iff_toInt_lt, Int32.not_le, Int32.not_lt, ← Int32.toInt_inj, i32c_0, i32c_1, i32c_2, i32c_3, i32c_4, i32c_5, i32c_6, i32c_7, i32c_8, i32c_9, i32c_16, i32c_20, i32c_99, i32c_m1, i32c_m6, ni_16, ni_20, ni_80, ni_2, ni_5, ni_0, ne_eq, i32c_9999] at *; omega)))) (rfl) rfl
def tH (M : hMem) (j : Nat) (x : Int32) : Int32 := if x = 3 then M (1 + (3 + j)) 4 else if x = 4 then M (1 + (3 + j)) 5 else M (1 + (3 + j)) 6
set_option maxHeartbeats 4000000 in
set_option maxRecDepth 20000 in
theorem c_X6_tellHolding (l : Launch) (z : hZt) {n : Nat} {M : hMem} {R : hRef} (gG : GS n R) {j : Nat} (hj : j < 20) (x : Int32) : hCt l z m_X6_tellHolding [.ref (z.1 + (1 + (3 + j))), .int x] n M R n (some (.int (tH M j x))) M R := by
  refine hs_start [some (.ref (z.1 + (1 + (3 + j)))), some (.int x)] (by decide +kernel) rfl (by intro u hu; simp at hu; rcases hu with rfl | rfl <;> first | rfl | exact isR_cat kv_isR | exact isR_cat aref_isR) (Nat.le_of_ble_eq_true rfl) (Nat.le_refl _) (fun X hlX hN hC hQ => ?_)
  dsimp only at hC hQ
  refine gx_iload_n (i := 1) hC dX6_tellHolding_0 rfl rfl ?_
  refine gx_iconst (v := 3) hC dX6_tellHolding_1 ic_3 ?_
  refine gx_icmp_ne (tgt := 10) hC dX6_tellHolding_2 (by decide) (fun c_2 => ?_) (fun c_2 => ?_)
  · refine gx_iload_n (i := 1) hC dX6_tellHolding_10 rfl rfl ?_
    refine gx_iconst (v := 4) hC dX6_tellHolding_11 ic_4 ?_
    refine gx_icmp_ne (tgt := 22) hC dX6_tellHolding_12 (by decide) (fun c_12 => ?_) (fun c_12 => ?_)
    · refine gx_aload_n (i := 0) hC dX6_tellHolding_22 rfl rfl (by first | exact Or.inr ⟨_, rfl⟩ | exact Or.inl rfl | exact kv_isR | exact aref_isR) ?_
      refine gx_getZ hC dX6_tellHolding_23 fl_X6_166 (by exact gG.now.ac hj) rfl (rfl) (fun hz_23 => ?_)
      refine gx_callS1 hC dX6_tellHolding_26 (c_X6_asNumber _ _ (by assumption)) kY_X6_asNumber kS_X6_asNumber ml_X6_65 (by decide) rfl rfl rfl (by first | exact Nat.le_of_ble_eq_true rfl | (simp [Value.category, isR_cat kv_isR, isR_cat aref_isR]; done)) (Nat.le_refl _) (Nat.le_refl _) ?_
      exact gx_iret hC hQ dX6_tellHolding_29 ((by unfold tH; rw [if_neg c_2, if_neg c_12])) (rfl) rfl
    · refine gx_aload_n (i := 0) hC dX6_tellHolding_15 rfl rfl (by first | exact Or.inr ⟨_, rfl⟩ | exact Or.inl rfl | exact kv_isR | exact aref_isR) ?_
      refine gx_getI hC dX6_tellHolding_16 fl_X6_250 (by exact gG.now.ac hj) (by decide) (rfl) ?_
      refine gx_goto (tgt := 29) hC dX6_tellHolding_19 (by decide) ?_
      exact gx_iret hC hQ dX6_tellHolding_29 ((by unfold tH; rw [if_neg c_2, if_pos c_12])) (rfl) rfl
  · refine gx_aload_n (i := 0) hC dX6_tellHolding_5 rfl rfl (by first | exact Or.inr ⟨_, rfl⟩ | exact Or.inl rfl | exact kv_isR | exact aref_isR) ?_
    refine gx_getI hC dX6_tellHolding_6 fl_X6_160 (by exact gG.now.ac hj) (by decide) (rfl) ?_
    exact gx_iret hC hQ dX6_tellHolding_9 ((by unfold tH; rw [if_pos c_2])) (rfl) rfl
def tN (M : hMem) (c : Nat) (x : Int32) : Int32 := if x = 3 then nI c else if x = 4 then sCnt (getS M 1) 0 c else if x = 5 then sCnt (getS M 1) 1 c else sCnt (getS M 1) 2 c
set_option maxHeartbeats 4000000 in
set_option maxRecDepth 20000 in
theorem c_X6_tellNumberOfAircraft (l : Launch) (z : hZt) {n : Nat} {M : hMem} {R : hRef} (gG : GS n R) {lv c : Nat} (hW : SW (getS M 1) lv c) (x : Int32) : hCt l z m_X6_tellNumberOfAircraft [.ref (z.1 + 0), .int x] n M R n (some (.int (tN M c x))) M R := by
  refine hs_start [some (.ref (z.1 + 0)), some (.int x)] (by decide +kernel) rfl (by intro u hu; simp at hu; rcases hu with rfl | rfl <;> first | rfl | exact isR_cat kv_isR | exact isR_cat aref_isR) (Nat.le_of_ble_eq_true rfl) (Nat.le_refl _) (fun X hlX hN hC hQ => ?_)
  dsimp only at hC hQ
  refine gx_iload_n (i := 1) hC dX6_tellNumberOfAircraft_0 rfl rfl ?_
  refine gx_iconst (v := 3) hC dX6_tellNumberOfAircraft_1 ic_3 ?_
  refine gx_icmp_ne (tgt := 13) hC dX6_tellNumberOfAircraft_2 (by decide) (fun c_2 => ?_) (fun c_2 => ?_)
  · refine gx_aload_n (i := 0) hC dX6_tellNumberOfAircraft_13 rfl rfl (by first | exact Or.inr ⟨_, rfl⟩ | exact Or.inl rfl | exact kv_isR | exact aref_isR) ?_
    refine gx_getR hC dX6_tellNumberOfAircraft_14 fl_X6_10 (by first | exact gG.at0 | exact gG.at47 | exact gG.at48 | exact gG.at164 | exact gG.at165 | exact gG.at166 | exact gG.at213 | exact gG.at214 | exact gG.now.at | exact gG.ahd.at) rfl (gG.r0) (by decide) ?_
    refine gx_iload_n (i := 1) hC dX6_tellNumberOfAircraft_17 rfl rfl ?_
    refine gx_iconst (v := 4) hC dX6_tellNumberOfAircraft_18 ic_4 ?_
    refine gx_icmp_ne (tgt := 26) hC dX6_tellNumberOfAircraft_19 (by decide) (fun c_19 => ?_) (fun c_19 => ?_)
    · refine gx_iload_n (i := 1) hC dX6_tellNumberOfAircraft_26 rfl rfl ?_
      refine gx_iconst (v := 5) hC dX6_tellNumberOfAircraft_27 ic_5 ?_
      refine gx_icmp_ne (tgt := 35) hC dX6_tellNumberOfAircraft_28 (by decide) (fun c_28 => ?_) (fun c_28 => ?_)
      · refine gx_iconst (v := 2) hC dX6_tellNumberOfAircraft_35 ic_2 ?_
        refine gx_callV1 hC dX6_tellNumberOfAircraft_36 (e_X4_countOf gG.now hW _) kY_X4_countOf kV_X4_countOf ml_X6_253 (by first | exact gG.at0 | exact gG.at47 | exact gG.at48 | exact gG.at164 | exact gG.at165 | exact gG.at166 | exact gG.at213 | exact gG.at214 | exact gG.now.at | exact gG.ahd.at) rfl (by decide) rfl rfl rfl (by first | exact Nat.le_of_ble_eq_true rfl | (simp [Value.category, isR_cat kv_isR, isR_cat aref_isR]; done)) (Nat.le_refl _) (Nat.le_refl _) ?_
        exact gx_iret hC hQ dX6_tellNumberOfAircraft_39 ((by unfold tN; rw [if_neg c_2, if_neg c_19, if_neg c_28])) (rfl) rfl
      · refine gx_iconst (v := 1) hC dX6_tellNumberOfAircraft_31 ic_1 ?_
        refine gx_goto (tgt := 36) hC dX6_tellNumberOfAircraft_32 (by decide) ?_
        refine gx_callV1 hC dX6_tellNumberOfAircraft_36 (e_X4_countOf gG.now hW _) kY_X4_countOf kV_X4_countOf ml_X6_253 (by first | exact gG.at0 | exact gG.at47 | exact gG.at48 | exact gG.at164 | exact gG.at165 | exact gG.at166 | exact gG.at213 | exact gG.at214 | exact gG.now.at | exact gG.ahd.at) rfl (by decide) rfl rfl rfl (by first | exact Nat.le_of_ble_eq_true rfl | (simp [Value.category, isR_cat kv_isR, isR_cat aref_isR]; done)) (Nat.le_refl _) (Nat.le_refl _) ?_
        exact gx_iret hC hQ dX6_tellNumberOfAircraft_39 ((by unfold tN; rw [if_neg c_2, if_neg c_19, if_pos c_28])) (rfl) rfl
    · refine gx_iconst (v := 0) hC dX6_tellNumberOfAircraft_22 ic_0 ?_
      refine gx_goto (tgt := 36) hC dX6_tellNumberOfAircraft_23 (by decide) ?_
      refine gx_callV1 hC dX6_tellNumberOfAircraft_36 (e_X4_countOf gG.now hW _) kY_X4_countOf kV_X4_countOf ml_X6_253 (by first | exact gG.at0 | exact gG.at47 | exact gG.at48 | exact gG.at164 | exact gG.at165 | exact gG.at166 | exact gG.at213 | exact gG.at214 | exact gG.now.at | exact gG.ahd.at) rfl (by decide) rfl rfl rfl (by first | exact Nat.le_of_ble_eq_true rfl | (simp [Value.category, isR_cat kv_isR, isR_cat aref_isR]; done)) (Nat.le_refl _) (Nat.le_refl _) ?_
      exact gx_iret hC hQ dX6_tellNumberOfAircraft_39 ((by unfold tN; rw [if_neg c_2, if_pos c_19])) (rfl) rfl
  · refine gx_aload_n (i := 0) hC dX6_tellNumberOfAircraft_5 rfl rfl (by first | exact Or.inr ⟨_, rfl⟩ | exact Or.inl rfl | exact kv_isR | exact aref_isR) ?_
    refine gx_getR hC dX6_tellNumberOfAircraft_6 fl_X6_10 (by first | exact gG.at0 | exact gG.at47 | exact gG.at48 | exact gG.at164 | exact gG.at165 | exact gG.at166 | exact gG.at213 | exact gG.at214 | exact gG.now.at | exact gG.ahd.at) rfl (gG.r0) (by decide) ?_
    refine gx_getI hC dX6_tellNumberOfAircraft_9 fl_X6_239 (by first | exact gG.at0 | exact gG.at47 | exact gG.at48 | exact gG.at164 | exact gG.at165 | exact gG.at166 | exact gG.at213 | exact gG.at214 | exact gG.now.at | exact gG.ahd.at) (by decide) ((getS_0.symm.trans hW.ct)) ?_
    exact gx_iret hC hQ dX6_tellNumberOfAircraft_12 ((by unfold tN; rw [if_pos c_2])) (rfl) rfl
def tF (M : hMem) (x : Int32) : Int32 := if x = 12 then M 1 11 else if x = 13 then M 1 12 else if x = 14 then M 1 13 else M 1 14
set_option maxHeartbeats 4000000 in
set_option maxRecDepth 20000 in
theorem c_X6_tellFuel (l : Launch) (z : hZt) {n : Nat} {M : hMem} {R : hRef} (gG : GS n R) (x : Int32) : hCt l z m_X6_tellFuel [.ref (z.1 + 0), .int x] n M R n (some (.int (tF M x))) M R := by
  refine hs_start [some (.ref (z.1 + 0)), some (.int x)] (by decide +kernel) rfl (by intro u hu; simp at hu; rcases hu with rfl | rfl <;> first | rfl | exact isR_cat kv_isR | exact isR_cat aref_isR) (Nat.le_of_ble_eq_true rfl) (Nat.le_refl _) (fun X hlX hN hC hQ => ?_)
  dsimp only at hC hQ
  refine gx_iload_n (i := 1) hC dX6_tellFuel_0 rfl rfl ?_
  refine gx_bipush (v := 12) hC dX6_tellFuel_1 bp_12 ?_
  refine gx_icmp_ne (tgt := 14) hC dX6_tellFuel_3 (by decide) (fun c_3 => ?_) (fun c_3 => ?_)
  · refine gx_iload_n (i := 1) hC dX6_tellFuel_14 rfl rfl ?_
    refine gx_bipush (v := 13) hC dX6_tellFuel_15 bp_13 ?_
    refine gx_icmp_ne (tgt := 28) hC dX6_tellFuel_17 (by decide) (fun c_17 => ?_) (fun c_17 => ?_)
    · refine gx_iload_n (i := 1) hC dX6_tellFuel_28 rfl rfl ?_
      refine gx_bipush (v := 14) hC dX6_tellFuel_29 bp_14 ?_
      refine gx_icmp_ne (tgt := 44) hC dX6_tellFuel_31 (by decide) (fun c_31 => ?_) (fun c_31 => ?_)
      · refine gx_aload_n (i := 0) hC dX6_tellFuel_44 rfl rfl (by first | exact Or.inr ⟨_, rfl⟩ | exact Or.inl rfl | exact kv_isR | exact aref_isR) ?_
        refine gx_getR hC dX6_tellFuel_45 fl_X6_10 (by first | exact gG.at0 | exact gG.at47 | exact gG.at48 | exact gG.at164 | exact gG.at165 | exact gG.at166 | exact gG.at213 | exact gG.at214 | exact gG.now.at | exact gG.ahd.at) rfl (gG.r0) (by decide) ?_
        refine gx_getI hC dX6_tellFuel_48 fl_X6_265 (by first | exact gG.at0 | exact gG.at47 | exact gG.at48 | exact gG.at164 | exact gG.at165 | exact gG.at166 | exact gG.at213 | exact gG.at214 | exact gG.now.at | exact gG.ahd.at) (by decide) (rfl) ?_
        exact gx_iret hC hQ dX6_tellFuel_51 ((by unfold tF; rw [if_neg c_3, if_neg c_17, if_neg c_31])) (rfl) rfl
      · refine gx_aload_n (i := 0) hC dX6_tellFuel_34 rfl rfl (by first | exact Or.inr ⟨_, rfl⟩ | exact Or.inl rfl | exact kv_isR | exact aref_isR) ?_
        refine gx_getR hC dX6_tellFuel_35 fl_X6_10 (by first | exact gG.at0 | exact gG.at47 | exact gG.at48 | exact gG.at164 | exact gG.at165 | exact gG.at166 | exact gG.at213 | exact gG.at214 | exact gG.now.at | exact gG.ahd.at) rfl (gG.r0) (by decide) ?_
        refine gx_getI hC dX6_tellFuel_38 fl_X6_262 (by first | exact gG.at0 | exact gG.at47 | exact gG.at48 | exact gG.at164 | exact gG.at165 | exact gG.at166 | exact gG.at213 | exact gG.at214 | exact gG.now.at | exact gG.ahd.at) (by decide) (rfl) ?_
        refine gx_goto (tgt := 51) hC dX6_tellFuel_41 (by decide) ?_
        exact gx_iret hC hQ dX6_tellFuel_51 ((by unfold tF; rw [if_neg c_3, if_neg c_17, if_pos c_31])) (rfl) rfl
    · refine gx_aload_n (i := 0) hC dX6_tellFuel_20 rfl rfl (by first | exact Or.inr ⟨_, rfl⟩ | exact Or.inl rfl | exact kv_isR | exact aref_isR) ?_
      refine gx_getR hC dX6_tellFuel_21 fl_X6_10 (by first | exact gG.at0 | exact gG.at47 | exact gG.at48 | exact gG.at164 | exact gG.at165 | exact gG.at166 | exact gG.at213 | exact gG.at214 | exact gG.now.at | exact gG.ahd.at) rfl (gG.r0) (by decide) ?_
      refine gx_getI hC dX6_tellFuel_24 fl_X6_259 (by first | exact gG.at0 | exact gG.at47 | exact gG.at48 | exact gG.at164 | exact gG.at165 | exact gG.at166 | exact gG.at213 | exact gG.at214 | exact gG.now.at | exact gG.ahd.at) (by decide) (rfl) ?_
      exact gx_iret hC hQ dX6_tellFuel_27 ((by unfold tF; rw [if_neg c_3, if_pos c_17])) (rfl) rfl
  · refine gx_aload_n (i := 0) hC dX6_tellFuel_6 rfl rfl (by first | exact Or.inr ⟨_, rfl⟩ | exact Or.inl rfl | exact kv_isR | exact aref_isR) ?_
    refine gx_getR hC dX6_tellFuel_7 fl_X6_10 (by first | exact gG.at0 | exact gG.at47 | exact gG.at48 | exact gG.at164 | exact gG.at165 | exact gG.at166 | exact gG.at213 | exact gG.at214 | exact gG.now.at | exact gG.ahd.at) rfl (gG.r0) (by decide) ?_
    refine gx_getI hC dX6_tellFuel_10 fl_X6_256 (by first | exact gG.at0 | exact gG.at47 | exact gG.at48 | exact gG.at164 | exact gG.at165 | exact gG.at166 | exact gG.at213 | exact gG.at214 | exact gG.now.at | exact gG.ahd.at) (by decide) (rfl) ?_
    exact gx_iret hC hQ dX6_tellFuel_13 ((by unfold tF; rw [if_pos c_3])) (rfl) rfl
/-- the aircraft on a level, or why there is none -/
def hLev (f : hMem) (x : Int32) : Int32 := if bHas f x = true then (match sHold f x with | none => -6 | some j => nI j) else -1
set_option maxHeartbeats 4000000 in
set_option maxRecDepth 20000 in
theorem c_X6_level (l : Launch) (z : hZt) {n : Nat} {M : hMem} {R : hRef} (gG : GS n R) {lv c : Nat} (hW : SW (getS M 1) lv c) (x : Int32) : hCt l z m_X6_level [.ref (z.1 + 0), .int x] n M R n (some (.int (hLev (getS M 1) x))) M R := by
  refine hs_start [some (.ref (z.1 + 0)), some (.int x), none] (by decide +kernel) rfl (by intro u hu; simp at hu; rcases hu with rfl | rfl <;> first | rfl | exact isR_cat kv_isR | exact isR_cat aref_isR) (Nat.le_of_ble_eq_true rfl) (Nat.le_refl _) (fun X hlX hN hC hQ => ?_)
  dsimp only at hC hQ
  refine gx_aload_n (i := 0) hC dX6_level_0 rfl rfl (by first | exact Or.inr ⟨_, rfl⟩ | exact Or.inl rfl | exact kv_isR | exact aref_isR) ?_
  refine gx_getR hC dX6_level_1 fl_X6_10 (by first | exact gG.at0 | exact gG.now.at | exact gG.now.ac (by assumption)) rfl (gG.r0) (by decide) ?_
  refine gx_iload_n (i := 1) hC dX6_level_4 rfl rfl ?_
  refine gx_callV1 hC dX6_level_5 (e_X4_hasLevel gG.now _) kY_X4_hasLevel kV_X4_hasLevel ml_X6_95 (by first | exact gG.at0 | exact gG.now.at | exact gG.now.ac (by assumption)) rfl (by decide) rfl rfl rfl (by first | exact Nat.le_of_ble_eq_true rfl | (simp [Value.category, isR_cat kv_isR, isR_cat aref_isR]; done)) (Nat.le_refl _) (Nat.le_refl _) ?_
  refine gx_ifb_ne (tgt := 13) hC dX6_level_8 (by decide) (fun c_8 => ?_) (fun c_8 => ?_)
  · refine gx_aload_n (i := 0) hC dX6_level_13 rfl rfl (by first | exact Or.inr ⟨_, rfl⟩ | exact Or.inl rfl | exact kv_isR | exact aref_isR) ?_
    refine gx_getR hC dX6_level_14 fl_X6_10 (by first | exact gG.at0 | exact gG.now.at | exact gG.now.ac (by assumption)) rfl (gG.r0) (by decide) ?_
    refine gx_iload_n (i := 1) hC dX6_level_17 rfl rfl ?_
    refine gx_callV1 hC dX6_level_18 (e_X4_holderOf gG.now _) kY_X4_holderOf kV_X4_holderOf ml_X6_99 (by first | exact gG.at0 | exact gG.now.at | exact gG.now.ac (by assumption)) rfl (by decide) rfl rfl rfl (by first | exact Nat.le_of_ble_eq_true rfl | (simp [Value.category, isR_cat kv_isR, isR_cat aref_isR]; done)) (Nat.le_refl _) (Nat.le_refl _) ?_
    refine gx_astore_n (i := 2) (L' := [_, _, _]) hC dX6_level_21 rfl (Nat.le_of_ble_eq_true rfl) rfl (fun u h9 => by first | exact Or.inl rfl | (cases h9; done) | (right; cases h9; first | rfl | exact isR_cat aref_isR | exact isR_cat kv_isR)) (by first | exact Or.inr ⟨_, rfl⟩ | exact Or.inl rfl | exact kv_isR | exact aref_isR) ?_
    refine gx_aload_n (i := 2) hC dX6_level_22 rfl rfl (by first | exact Or.inr ⟨_, rfl⟩ | exact Or.inl rfl | exact kv_isR | exact aref_isR) ?_
    refine gx_ifnonnull_o (tgt := 31) hC dX6_level_23 (by decide) (fun j_23 c_23 => ?_) (fun c_23 => ?_)
    · have hj_23 := sHold_lt c_23
      simp only [c_23, aref_some]
      refine gx_aload_n (i := 2) hC dX6_level_31 rfl rfl (by first | exact Or.inr ⟨_, rfl⟩ | exact Or.inl rfl | exact kv_isR | exact aref_isR) ?_
      refine gx_getI hC dX6_level_32 fl_X6_103 (by first | exact gG.at0 | exact gG.now.at | exact gG.now.ac (by assumption)) (by decide) ((getS_at (by omega)).symm.trans (hW.nu hj_23)) ?_
      exact gx_iret hC hQ dX6_level_35 ((by unfold hLev; rw [if_pos c_8, c_23])) (rfl) rfl
    · try simp only [c_23, aref_none]
      refine gx_bipush (v := -6) hC dX6_level_26 bp_m6 ?_
      refine gx_goto (tgt := 35) hC dX6_level_28 (by decide) ?_
      exact gx_iret hC hQ dX6_level_35 ((by unfold hLev; rw [if_pos c_8, c_23])) (rfl) rfl
  · refine gx_iconst (v := -1) hC dX6_level_11 ic_m1 ?_
    exact gx_iret hC hQ dX6_level_12 ((by unfold hLev; rw [if_neg (by rw [c_8]; decide)])) (rfl) rfl
def bK (x : Int32) : Bool := decide (x = 0 ∨ x = 1 ∨ x = 2)
theorem bK_f {x : Int32} (h : ¬ hk x) : bK x = false := decide_eq_false h
theorem bK_t {x : Int32} (h : hk x) : bK x = true := decide_eq_true h
/-- why an aircraft can't enter; the reason that stays -/
def cEn (M : hMem) (c : Nat) (kd fuel lev : Int32) : Int32 × hMem :=
  if bK kd = false ∨ bHas (getS M 1) lev = false then (-1, M) else if bFuel fuel = false then (-2, M) else if bFull (getS M 1) = true then (-4, M)
  else if sRef (getS M 1) c kd fuel lev = 0 then (0, M) else (-5, up2 M 1 15 (sRef (getS M 1) c kd fuel lev))

set_option maxHeartbeats 4000000 in
set_option maxRecDepth 20000 in
theorem c_X6_checkEntry (l : Launch) (z : hZt) {n : Nat} {M : hMem} {R : hRef} (gG : GS n R) {lv c : Nat} (hW : SW (getS M 1) lv c) (kd fuel lev : Int32) : hCt l z m_X6_checkEntry [.ref (z.1 + 0), kv z.2.1 kd, .int fuel, .int lev] n M R n (some (.int (cEn M c kd fuel lev).1)) (cEn M c kd fuel lev).2 R := by
  refine hs_start [some (.ref (z.1 + 0)), some (kv z.2.1 kd), some (.int fuel), some (.int lev), none] (by decide +kernel) rfl (by intro u hu; simp at hu; rcases hu with rfl | rfl | rfl | rfl <;> first | rfl | exact isR_cat kv_isR | exact isR_cat aref_isR) (Nat.le_of_ble_eq_true rfl) (Nat.le_refl _) (fun X hlX hN hC hQ => ?_)
  dsimp only at hC hQ
  refine gx_aload_n (i := 1) hC dX6_checkEntry_0 rfl rfl (by first | exact kv_isR | exact Or.inr ⟨_, rfl⟩) ?_
  refine gx_ifnull_kv (tgt := 15) hC dX6_checkEntry_1 (by decide) (fun c_1 => ?_) (fun c_1 => ?_)
  · refine gx_iconst (v := -1) hC dX6_checkEntry_15 ic_m1 ?_
    exact gx_iret hC hQ dX6_checkEntry_16 ((by unfold cEn; rw [if_pos (Or.inl (bK_f c_1))])) ((by unfold cEn; rw [if_pos (Or.inl (bK_f c_1))])) rfl
  · have hkd := c_1
    refine gx_aload_n (i := 0) hC dX6_checkEntry_4 rfl rfl (by first | exact kv_isR | exact Or.inr ⟨_, rfl⟩) ?_
    refine gx_getR hC dX6_checkEntry_5 fl_X6_10 (by first | exact gG.at0 | exact gG.at47 | exact gG.at48 | exact gG.at164 | exact gG.at165 | exact gG.at166 | exact gG.at213 | exact gG.at214 | exact gG.now.at | exact gG.ahd.at) rfl (gG.r0) (by decide) ?_
    refine gx_iload_n (i := 3) hC dX6_checkEntry_8 rfl rfl ?_
    refine gx_callV1 hC dX6_checkEntry_9 (e_X4_hasLevel gG.now _) kY_X4_hasLevel kV_X4_hasLevel ml_X6_95 (by first | exact gG.at0 | exact gG.at47 | exact gG.at48 | exact gG.at164 | exact gG.at165 | exact gG.at166 | exact gG.at213 | exact gG.at214 | exact gG.now.at | exact gG.ahd.at) rfl (by decide) rfl rfl rfl (by first | exact Nat.le_of_ble_eq_true rfl | (simp [Value.category, isR_cat kv_isR, isR_cat aref_isR]; done)) (Nat.le_refl _) (Nat.le_refl _) ?_
    refine gx_ifb_ne (tgt := 17) hC dX6_checkEntry_12 (by decide) (fun c_12 => ?_) (fun c_12 => ?_)
    · refine gx_iload_n (i := 2) hC dX6_checkEntry_17 rfl rfl ?_
      refine gx_callS1 hC dX6_checkEntry_18 (c_X6_isFuel _ _ _) kY_X6_isFuel kS_X6_isFuel ml_X6_179 (by decide) rfl rfl rfl (by first | exact Nat.le_of_ble_eq_true rfl | (simp [Value.category, isR_cat kv_isR, isR_cat aref_isR]; done)) (Nat.le_refl _) (Nat.le_refl _) ?_
      refine gx_ifb_ne (tgt := 27) hC dX6_checkEntry_21 (by decide) (fun c_21 => ?_) (fun c_21 => ?_)
      · refine gx_aload_n (i := 0) hC dX6_checkEntry_27 rfl rfl (by first | exact kv_isR | exact Or.inr ⟨_, rfl⟩) ?_
        refine gx_getR hC dX6_checkEntry_28 fl_X6_10 (by first | exact gG.at0 | exact gG.at47 | exact gG.at48 | exact gG.at164 | exact gG.at165 | exact gG.at166 | exact gG.at213 | exact gG.at214 | exact gG.now.at | exact gG.ahd.at) rfl (gG.r0) (by decide) ?_
        refine gx_callV1 hC dX6_checkEntry_31 (e_X4_isFull gG.now) kY_X4_isFull kV_X4_isFull ml_X6_182 (by first | exact gG.at0 | exact gG.at47 | exact gG.at48 | exact gG.at164 | exact gG.at165 | exact gG.at166 | exact gG.at213 | exact gG.at214 | exact gG.now.at | exact gG.ahd.at) rfl (by decide) rfl rfl rfl (by first | exact Nat.le_of_ble_eq_true rfl | (simp [Value.category, isR_cat kv_isR, isR_cat aref_isR]; done)) (Nat.le_refl _) (Nat.le_refl _) ?_
        refine gx_ifb_eq (tgt := 40) hC dX6_checkEntry_34 (by decide) (fun c_34 => ?_) (fun c_34 => ?_)
        · refine gx_aload_n (i := 0) hC dX6_checkEntry_40 rfl rfl (by first | exact kv_isR | exact Or.inr ⟨_, rfl⟩) ?_
          refine gx_getR hC dX6_checkEntry_41 fl_X6_10 (by first | exact gG.at0 | exact gG.at47 | exact gG.at48 | exact gG.at164 | exact gG.at165 | exact gG.at166 | exact gG.at213 | exact gG.at214 | exact gG.now.at | exact gG.ahd.at) rfl (gG.r0) (by decide) ?_
          refine gx_aload_n (i := 1) hC dX6_checkEntry_44 rfl rfl (by first | exact kv_isR | exact Or.inr ⟨_, rfl⟩) ?_
          refine gx_iload_n (i := 2) hC dX6_checkEntry_45 rfl rfl ?_
          refine gx_iload_n (i := 3) hC dX6_checkEntry_46 rfl rfl ?_
          refine gx_callV1 hC dX6_checkEntry_47 (e_X4_refusal gG.now hW _ _ _ (by assumption)) kY_X4_refusal kV_X4_refusal ml_X6_185 (by first | exact gG.at0 | exact gG.at47 | exact gG.at48 | exact gG.at164 | exact gG.at165 | exact gG.at166 | exact gG.at213 | exact gG.at214 | exact gG.now.at | exact gG.ahd.at) rfl (by decide) rfl rfl rfl (by first | exact Nat.le_of_ble_eq_true rfl | (simp [Value.category, isR_cat kv_isR, isR_cat aref_isR]; done)) (Nat.le_refl _) (Nat.le_refl _) ?_
          refine gx_istore (i := 4) (L' := [_, _, _, _, _]) hC dX6_checkEntry_50 (Nat.le_of_ble_eq_true rfl) rfl (fun u h9 => by first | exact Or.inl rfl | (cases h9; done) | (right; cases h9; first | rfl | exact isR_cat aref_isR | exact isR_cat kv_isR)) ?_
          refine gx_iload hC dX6_checkEntry_52 rfl ?_
          refine gx_if_ne (tgt := 59) hC dX6_checkEntry_54 (by decide) (fun c_54 => ?_) (fun c_54 => ?_)
          · refine gx_aload_n (i := 0) hC dX6_checkEntry_59 rfl rfl (by first | exact kv_isR | exact Or.inr ⟨_, rfl⟩) ?_
            refine gx_getR hC dX6_checkEntry_60 fl_X6_10 (by first | exact gG.at0 | exact gG.at47 | exact gG.at48 | exact gG.at164 | exact gG.at165 | exact gG.at166 | exact gG.at213 | exact gG.at214 | exact gG.now.at | exact gG.ahd.at) rfl (gG.r0) (by decide) ?_
            refine gx_iload hC dX6_checkEntry_63 rfl ?_
            refine gx_putI hC dX6_checkEntry_65 fl_X6_145 (by first | exact gG.at0 | exact gG.at47 | exact gG.at48 | exact gG.at164 | exact gG.at165 | exact gG.at166 | exact gG.at213 | exact gG.at214 | exact gG.now.at | exact gG.ahd.at) fn_3_15 rfl (rfl) ?_
            refine gx_bipush (v := -5) hC dX6_checkEntry_68 bp_m5 ?_
            exact gx_iret hC hQ dX6_checkEntry_70 ((by unfold cEn; rw [if_neg (fun q => q.elim (fun r => absurd ((bK_t c_1).symm.trans r) (by decide)) (fun r => absurd (c_12.symm.trans r) (by decide))), if_neg (by rw [c_21]; decide), if_neg (by rw [c_34]; decide), if_neg c_54])) ((by unfold cEn; rw [if_neg (fun q => q.elim (fun r => absurd ((bK_t c_1).symm.trans r) (by decide)) (fun r => absurd (c_12.symm.trans r) (by decide))), if_neg (by rw [c_21]; decide), if_neg (by rw [c_34]; decide), if_neg c_54])) rfl
          · refine gx_iconst (v := 0) hC dX6_checkEntry_57 ic_0 ?_
            exact gx_iret hC hQ dX6_checkEntry_58 ((by unfold cEn; rw [if_neg (fun q => q.elim (fun r => absurd ((bK_t c_1).symm.trans r) (by decide)) (fun r => absurd (c_12.symm.trans r) (by decide))), if_neg (by rw [c_21]; decide), if_neg (by rw [c_34]; decide), if_pos c_54])) ((by unfold cEn; rw [if_neg (fun q => q.elim (fun r => absurd ((bK_t c_1).symm.trans r) (by decide)) (fun r => absurd (c_12.symm.trans r) (by decide))), if_neg (by rw [c_21]; decide), if_neg (by rw [c_34]; decide), if_pos c_54])) rfl
        · refine gx_bipush (v := -4) hC dX6_checkEntry_37 bp_m4 ?_
          exact gx_iret hC hQ dX6_checkEntry_39 ((by unfold cEn; rw [if_neg (fun q => q.elim (fun r => absurd ((bK_t c_1).symm.trans r) (by decide)) (fun r => absurd (c_12.symm.trans r) (by decide))), if_neg (by rw [c_21]; decide), if_pos c_34])) ((by unfold cEn; rw [if_neg (fun q => q.elim (fun r => absurd ((bK_t c_1).symm.trans r) (by decide)) (fun r => absurd (c_12.symm.trans r) (by decide))), if_neg (by rw [c_21]; decide), if_pos c_34])) rfl
      · refine gx_bipush (v := -2) hC dX6_checkEntry_24 bp_m2 ?_
        exact gx_iret hC hQ dX6_checkEntry_26 ((by unfold cEn; rw [if_neg (fun q => q.elim (fun r => absurd ((bK_t c_1).symm.trans r) (by decide)) (fun r => absurd (c_12.symm.trans r) (by decide))), if_pos c_21])) ((by unfold cEn; rw [if_neg (fun q => q.elim (fun r => absurd ((bK_t c_1).symm.trans r) (by decide)) (fun r => absurd (c_12.symm.trans r) (by decide))), if_pos c_21])) rfl
    · refine gx_iconst (v := -1) hC dX6_checkEntry_15 ic_m1 ?_
      exact gx_iret hC hQ dX6_checkEntry_16 ((by unfold cEn; rw [if_pos (Or.inr c_12)])) ((by unfold cEn; rw [if_pos (Or.inr c_12)])) rfl
def cCl (M : hMem) (x : Int32) : Int32 := match sNum (getS M 1) x with
  | none => -1
  | some j => if M (1 + (3 + j)) 3 = 0 ∧ 0 < M (1 + (3 + j)) 4 ∧ M (1 + (3 + j)) 6 = 0 then 0 else -3
set_option maxHeartbeats 4000000 in
set_option maxRecDepth 20000 in
theorem c_X6_checkCall (l : Launch) (z : hZt) {n : Nat} {M : hMem} {R : hRef} (gG : GS n R) (x : Int32) : hCt l z m_X6_checkCall [.ref (z.1 + 0), .int x] n M R n (some (.int (cCl M x))) M R := by
  refine hs_start [some (.ref (z.1 + 0)), some (.int x), none] (by decide +kernel) rfl (by intro u hu; simp at hu; rcases hu with rfl | rfl <;> first | rfl | exact isR_cat kv_isR | exact isR_cat aref_isR) (Nat.le_of_ble_eq_true rfl) (Nat.le_refl _) (fun X hlX hN hC hQ => ?_)
  dsimp only at hC hQ
  refine gx_aload_n (i := 0) hC dX6_checkCall_0 rfl rfl (by first | exact Or.inr ⟨_, rfl⟩ | exact Or.inl rfl | exact kv_isR | exact aref_isR) ?_
  refine gx_getR hC dX6_checkCall_1 fl_X6_10 (by first | exact gG.at0 | exact gG.now.at | exact gG.now.ac (by assumption)) rfl (gG.r0) (by decide) ?_
  refine gx_iload_n (i := 1) hC dX6_checkCall_4 rfl rfl ?_
  refine gx_callV1 hC dX6_checkCall_5 (e_X4_numbered gG.now _) kY_X4_numbered kV_X4_numbered ml_X6_108 (by first | exact gG.at0 | exact gG.now.at | exact gG.now.ac (by assumption)) rfl (by decide) rfl rfl rfl (by first | exact Nat.le_of_ble_eq_true rfl | (simp [Value.category, isR_cat kv_isR, isR_cat aref_isR]; done)) (Nat.le_refl _) (Nat.le_refl _) ?_
  refine gx_astore_n (i := 2) (L' := [_, _, _]) hC dX6_checkCall_8 rfl (Nat.le_of_ble_eq_true rfl) rfl (fun u h9 => by first | exact Or.inl rfl | (cases h9; done) | (right; cases h9; first | rfl | exact isR_cat aref_isR | exact isR_cat kv_isR)) (by first | exact Or.inr ⟨_, rfl⟩ | exact Or.inl rfl | exact kv_isR | exact aref_isR) ?_
  refine gx_aload_n (i := 2) hC dX6_checkCall_9 rfl rfl (by first | exact Or.inr ⟨_, rfl⟩ | exact Or.inl rfl | exact kv_isR | exact aref_isR) ?_
  refine gx_ifnonnull_o (tgt := 15) hC dX6_checkCall_10 (by decide) (fun j_10 c_10 => ?_) (fun c_10 => ?_)
  · have hj_10 := sNum_lt c_10
    simp only [c_10, aref_some]
    refine gx_aload_n (i := 2) hC dX6_checkCall_15 rfl rfl (by first | exact Or.inr ⟨_, rfl⟩ | exact Or.inl rfl | exact kv_isR | exact aref_isR) ?_
    refine gx_callV1 hC dX6_checkCall_16 (c_X0_isHolding _ _ (gG.now.ac hj_10)) kY_X0_isHolding kV_X0_isHolding ml_X6_126 (by first | exact gG.at0 | exact gG.now.at | exact gG.now.ac (by assumption)) rfl (by decide) rfl rfl rfl (by first | exact Nat.le_of_ble_eq_true rfl | (simp [Value.category, isR_cat kv_isR, isR_cat aref_isR]; done)) (Nat.le_refl _) (Nat.le_refl _) ?_
    refine gx_ifb_eq (tgt := 40) hC dX6_checkCall_19 (by decide) (fun c_19 => ?_) (fun c_19 => ?_)
    · refine gx_bipush (v := -3) hC dX6_checkCall_40 bp_m3 ?_
      exact gx_iret hC hQ dX6_checkCall_42 ((by unfold cCl; rw [c_10]; simp only; rw [if_neg (fun q => absurd q.1 (of_decide_eq_false c_19))])) (rfl) rfl
    · refine gx_aload_n (i := 2) hC dX6_checkCall_22 rfl rfl (by first | exact Or.inr ⟨_, rfl⟩ | exact Or.inl rfl | exact kv_isR | exact aref_isR) ?_
      refine gx_getI hC dX6_checkCall_23 fl_X6_160 (by first | exact gG.at0 | exact gG.now.at | exact gG.now.ac (by assumption)) (by decide) (rfl) ?_
      refine gx_if_le (tgt := 40) hC dX6_checkCall_26 (by decide) (fun c_26 => ?_) (fun c_26 => ?_)
      · refine gx_bipush (v := -3) hC dX6_checkCall_40 bp_m3 ?_
        exact gx_iret hC hQ dX6_checkCall_42 ((by unfold cCl; rw [c_10]; simp only; rw [if_neg (fun q => absurd c_26 (Int32.not_le.mpr q.2.1))])) (rfl) rfl
      · refine gx_aload_n (i := 2) hC dX6_checkCall_29 rfl rfl (by first | exact Or.inr ⟨_, rfl⟩ | exact Or.inl rfl | exact kv_isR | exact aref_isR) ?_
        refine gx_getZ hC dX6_checkCall_30 fl_X6_166 (by first | exact gG.at0 | exact gG.now.at | exact gG.now.ac (by assumption)) rfl (rfl) (fun hz_30 => ?_)
        refine gx_if_ne (tgt := 40) hC dX6_checkCall_33 (by decide) (fun c_33 => ?_) (fun c_33 => ?_)
        · refine gx_bipush (v := -3) hC dX6_checkCall_40 bp_m3 ?_
          exact gx_iret hC hQ dX6_checkCall_42 ((by unfold cCl; rw [c_10]; simp only; rw [if_neg (fun q => c_33 q.2.2)])) (rfl) rfl
        · refine gx_iconst (v := 0) hC dX6_checkCall_36 ic_0 ?_
          refine gx_goto (tgt := 42) hC dX6_checkCall_37 (by decide) ?_
          exact gx_iret hC hQ dX6_checkCall_42 ((by unfold cCl; rw [c_10]; simp only; rw [if_pos ⟨of_decide_eq_true c_19, Int32.not_le.mp c_26, c_33⟩])) (rfl) rfl
  · try simp only [c_10, aref_none]
    refine gx_iconst (v := -1) hC dX6_checkCall_13 ic_m1 ?_
    exact gx_iret hC hQ dX6_checkCall_14 ((by unfold cCl; rw [c_10])) (rfl) rfl
