/-! an aircraft's methods over its state's block -/
section AB
variable {l : Launch} {z : hZt} {n : Nat} {M : hMem} {R : hRef} {o : Nat} {f : hMem} {j : Nat}
theorem d_X0_isHolding (hS : hSt n R o) (hj : j < 20) : hCt l z m_X0_isHolding [.ref (z.1 + (o + (3 + j)))] n (putS M o f) R n (some (.int (b2 (decide (f (3 + j) 3 = 0))))) (putS M o f) R := by
  have h := c_X0_isHolding l z (M := putS M o f) (R := R) (hS.ac hj)
  have e : ∀ k, putS M o f (o + (3 + j)) k = f (3 + j) k := fun k => pSj (by omega)
  simp only [e] at h
  skip
  exact h
theorem d_X0_isOverFix (hS : hSt n R o) (hj : j < 20) : hCt l z m_X0_isOverFix [.ref (z.1 + (o + (3 + j)))] n (putS M o f) R n (some (.int (b2 (decide (f (3 + j) 5 = 0))))) (putS M o f) R := by
  have h := c_X0_isOverFix l z (M := putS M o f) (R := R) (hS.ac hj)
  have e : ∀ k, putS M o f (o + (3 + j)) k = f (3 + j) k := fun k => pSj (by omega)
  simp only [e] at h
  skip
  exact h
theorem d_X0_isShort (hS : hSt n R o) (hj : j < 20) (hk1 : hk (f (3 + j) 1)) : hCt l z m_X0_isShort [.ref (z.1 + (o + (3 + j)))] n (putS M o f) R n (some (.int (b2 (decide (f (3 + j) 2 ≤ kRes (f (3 + j) 1)))))) (putS M o f) R := by
  have h := c_X0_isShort l z (M := putS M o f) (R := R) (hS.ac hj) (by rw [pSj (by omega)]; exact hk1)
  have e : ∀ k, putS M o f (o + (3 + j)) k = f (3 + j) k := fun k => pSj (by omega)
  simp only [e] at h
  skip
  exact h
theorem d_X0_mustDivert (hS : hSt n R o) (hj : j < 20) (hk1 : hk (f (3 + j) 1)) : hCt l z m_X0_mustDivert [.ref (z.1 + (o + (3 + j)))] n (putS M o f) R n (some (.int (b2 (decide (2 * f (3 + j) 2 < kRes (f (3 + j) 1)))))) (putS M o f) R := by
  have h := c_X0_mustDivert l z (M := putS M o f) (R := R) (hS.ac hj) (by rw [pSj (by omega)]; exact hk1)
  have e : ∀ k, putS M o f (o + (3 + j)) k = f (3 + j) k := fun k => pSj (by omega)
  simp only [e] at h
  skip
  exact h
theorem d_X0_minutesUntilShort (hS : hSt n R o) (hj : j < 20) (hk1 : hk (f (3 + j) 1)) : hCt l z m_X0_minutesUntilShort [.ref (z.1 + (o + (3 + j)))] n (putS M o f) R n (some (.int (aUntil f (3 + j)))) (putS M o f) R := by
  have h := c_X0_minutesUntilShort l z (M := putS M o f) (R := R) (hS.ac hj) (by rw [pSj (by omega)]; exact hk1)
  have e : ∀ k, putS M o f (o + (3 + j)) k = f (3 + j) k := fun k => pSj (by omega)
  simp only [aUntil, e] at h
  skip
  exact h
theorem d_X0_burnForMinute (hS : hSt n R o) (hj : j < 20) (hk1 : hk (f (3 + j) 1)) : hCt l z m_X0_burnForMinute [.ref (z.1 + (o + (3 + j)))] n (putS M o f) R n (some (.int (aBm f (3 + j)))) (putS M o (up2 f (3 + j) 2 (f (3 + j) 2 - aBm f (3 + j)))) R := by
  have h := c_X0_burnForMinute l z (M := putS M o f) (R := R) (hS.ac hj) (by rw [pSj (by omega)]; exact hk1)
  have e : ∀ k, putS M o f (o + (3 + j)) k = f (3 + j) k := fun k => pSj (by omega)
  simp only [aBm, e] at h
  rw [up_S (by omega)] at h
  exact h
theorem d_X0_flyMinute (hS : hSt n R o) (hj : j < 20) (lap : Int32) : hCt l z m_X0_flyMinute [.ref (z.1 + (o + (3 + j))), .int lap] n (putS M o f) R n none (putS M o (up2 f (3 + j) 5 (aFly f (3 + j) lap))) R := by
  have h := c_X0_flyMinute l z (M := putS M o f) (R := R) (hS.ac hj) lap
  have e : ∀ k, putS M o f (o + (3 + j)) k = f (3 + j) k := fun k => pSj (by omega)
  simp only [aFly, e] at h
  rw [up_S (by omega)] at h
  exact h
end AB
def sRef (f : hMem) (c : Nat) (kd fuel lev : Int32) : Int32 := if bFree f lev = false then 1 else if fuel ≤ kRes kd then 2 else if f 0 5 ≤ sCnt f 0 c then 3 else 0
set_option maxHeartbeats 4000000 in
set_option maxRecDepth 20000 in
theorem c_X4_refusal (l : Launch) (z : hZt) {n : Nat} {M : hMem} {R : hRef} {o : Nat} (hS : hSt n R o) {f : hMem} {lv c : Nat} (hW : SW f lv c) (kd fuel lev : Int32) (hkd : hk kd) : hCt l z m_X4_refusal [.ref (z.1 + o), kv z.2.1 kd, .int fuel, .int lev] n (putS M o f) R n (some (.int (sRef f c kd fuel lev))) (putS M o f) R := by
  refine hs_start [some (.ref (z.1 + o)), some (kv z.2.1 kd), some (.int fuel), some (.int lev)] (by decide +kernel) rfl (by intro u hu; simp at hu; rcases hu with rfl | rfl | rfl | rfl <;> first | rfl | exact isR_cat kv_isR | exact isR_cat aref_isR) (Nat.le_of_ble_eq_true rfl) (Nat.le_refl _) (fun X hlX hN hC hQ => ?_)
  dsimp only at hC hQ
  refine gx_aload_n (i := 0) hC dX4_refusal_0 rfl rfl (by first | exact Or.inr ⟨_, rfl⟩ | exact Or.inl rfl | exact kv_isR | exact aref_isR) ?_
  refine gx_iload_n (i := 3) hC dX4_refusal_1 rfl rfl ?_
  refine gx_callV1 hC dX4_refusal_2 (c_X4_isFree _ _ hS _) kY_X4_isFree kV_X4_isFree ml_X4_95 (by first | exact hS.at | exact hS.aa | exact hS.ah | exact hS.ac (by assumption) | exact hS.ac (by omega)) rfl (by decide) rfl rfl rfl (by first | exact Nat.le_of_ble_eq_true rfl | (simp [Value.category, isR_cat kv_isR, isR_cat aref_isR]; done)) (Nat.le_refl _) (Nat.le_refl _) ?_
  refine gx_ifb_ne (tgt := 10) hC dX4_refusal_5 (by decide) (fun c_5 => ?_) (fun c_5 => ?_)
  · refine gx_iload_n (i := 2) hC dX4_refusal_10 rfl rfl ?_
    refine gx_aload_n (i := 1) hC dX4_refusal_11 rfl rfl (by first | exact Or.inr ⟨_, rfl⟩ | exact Or.inl rfl | exact kv_isR | exact aref_isR) ?_
    refine gx_getK hC dX4_refusal_12 2 (by decide) fl_X4_98 (by assumption) kf_2 ?_
    refine gx_icmp_gt (tgt := 20) hC dX4_refusal_15 (by decide) (fun c_15 => ?_) (fun c_15 => ?_)
    · refine gx_aload_n (i := 0) hC dX4_refusal_20 rfl rfl (by first | exact Or.inr ⟨_, rfl⟩ | exact Or.inl rfl | exact kv_isR | exact aref_isR) ?_
      refine gx_iconst (v := 0) hC dX4_refusal_21 ic_0 ?_
      refine gx_callV1 hC dX4_refusal_22 (c_X4_countOf _ _ hS hW _) kY_X4_countOf kV_X4_countOf ml_X4_103 (by first | exact hS.at | exact hS.aa | exact hS.ah | exact hS.ac (by assumption) | exact hS.ac (by omega)) rfl (by decide) rfl rfl rfl (by first | exact Nat.le_of_ble_eq_true rfl | (simp [Value.category, isR_cat kv_isR, isR_cat aref_isR]; done)) (Nat.le_refl _) (Nat.le_refl _) ?_
      refine gx_aload_n (i := 0) hC dX4_refusal_25 rfl rfl (by first | exact Or.inr ⟨_, rfl⟩ | exact Or.inl rfl | exact kv_isR | exact aref_isR) ?_
      refine gx_getI hC dX4_refusal_26 fl_X4_28 (by first | exact hS.at | exact hS.aa | exact hS.ah | exact hS.ac (by assumption) | exact hS.ac (by omega)) (by decide) (pS0) ?_
      refine gx_icmp_lt (tgt := 36) hC dX4_refusal_29 (by decide) (fun c_29 => ?_) (fun c_29 => ?_)
      · refine gx_iconst (v := 0) hC dX4_refusal_36 ic_0 ?_
        exact gx_iret hC hQ dX4_refusal_37 (by unfold sRef; (repeat' split) <;> first | rfl | (exfalso; clear hQ hC hN hlX; simp_all; done) | (exfalso; (clear hQ hC hN hlX; simp only [Int32.le_iff_toInt_le, Int32.lt_iff_toInt_lt, Int32.not_le, Int32.not_lt, ← Int32.toInt_inj, i32c_0, i32c_1, i32c_2, i32c_3, i32c_4, i32c_5, i32c_6, i32c_7, i32c_8, i32c_9, i32c_16, i32c_20, i32c_99, i32c_m1, i32c_m6, ni_16, ni_20, ni_80, ni_2, ni_5, ni_0, ne_eq] at *; omega))) (rfl) rfl
      · refine gx_iconst (v := 3) hC dX4_refusal_32 ic_3 ?_
        refine gx_goto (tgt := 37) hC dX4_refusal_33 (by decide) ?_
        exact gx_iret hC hQ dX4_refusal_37 (by unfold sRef; (repeat' split) <;> first | rfl | (exfalso; clear hQ hC hN hlX; simp_all; done) | (exfalso; (clear hQ hC hN hlX; simp only [Int32.le_iff_toInt_le, Int32.lt_iff_toInt_lt, Int32.not_le, Int32.not_lt, ← Int32.toInt_inj, i32c_0, i32c_1, i32c_2, i32c_3, i32c_4, i32c_5, i32c_6, i32c_7, i32c_8, i32c_9, i32c_16, i32c_20, i32c_99, i32c_m1, i32c_m6, ni_16, ni_20, ni_80, ni_2, ni_5, ni_0, ne_eq] at *; omega))) (rfl) rfl
    · refine gx_iconst (v := 2) hC dX4_refusal_18 ic_2 ?_
      exact gx_iret hC hQ dX4_refusal_19 (by unfold sRef; (repeat' split) <;> first | rfl | (exfalso; clear hQ hC hN hlX; simp_all; done) | (exfalso; (clear hQ hC hN hlX; simp only [Int32.le_iff_toInt_le, Int32.lt_iff_toInt_lt, Int32.not_le, Int32.not_lt, ← Int32.toInt_inj, i32c_0, i32c_1, i32c_2, i32c_3, i32c_4, i32c_5, i32c_6, i32c_7, i32c_8, i32c_9, i32c_16, i32c_20, i32c_99, i32c_m1, i32c_m6, ni_16, ni_20, ni_80, ni_2, ni_5, ni_0, ne_eq] at *; omega))) (rfl) rfl
  · refine gx_iconst (v := 1) hC dX4_refusal_8 ic_1 ?_
    exact gx_iret hC hQ dX4_refusal_9 (by unfold sRef; (repeat' split) <;> first | rfl | (exfalso; clear hQ hC hN hlX; simp_all; done) | (exfalso; (clear hQ hC hN hlX; simp only [Int32.le_iff_toInt_le, Int32.lt_iff_toInt_lt, Int32.not_le, Int32.not_lt, ← Int32.toInt_inj, i32c_0, i32c_1, i32c_2, i32c_3, i32c_4, i32c_5, i32c_6, i32c_7, i32c_8, i32c_9, i32c_16, i32c_20, i32c_99, i32c_m1, i32c_m6, ni_16, ni_20, ni_80, ni_2, ni_5, ni_0, ne_eq] at *; omega))) (rfl) rfl
theorem sSetH_off {f : hMem} {x v : Int32} {i k : Nat} (h : i ≠ 2) : sSetH f x v i k = f i k := by
  unfold sSetH
  split
  · exact up2_off (fun q => h q.1)
  · rfl
def sAdm (f : hMem) (c : Nat) (kd fuel lev : Int32) : hMem := up2 (up2 (sSetH (up2 (up2 (up2 (up2 (up2 (up2 (up2 f 0 2 (nI c + 1)) (3 + c) 1 kd) (3 + c) 2 fuel) (3 + c) 3 0) (3 + c) 4 lev) (3 + c) 5 1) (3 + c) 6 0) lev (nI c)) 0 11
  ((sSetH (up2 (up2 (up2 (up2 (up2 (up2 (up2 f 0 2 (nI c + 1)) (3 + c) 1 kd) (3 + c) 2 fuel) (3 + c) 3 0) (3 + c) 4 lev) (3 + c) 5 1) (3 + c) 6 0) lev (nI c)) 0 11 + fuel)) 0 15 0
theorem bFull_f {f : hMem} {lv c : Nat} (hW : SW f lv c) (hc : c < 20) : bFull f = false := by
  unfold bFull
  rw [hW.ct]
  exact decide_eq_false (fun h => by have := cle (by decide) (by omega) h; omega)
set_option maxHeartbeats 4000000 in
set_option maxRecDepth 20000 in
theorem c_X4_admit (l : Launch) (z : hZt) {n : Nat} {M : hMem} {R : hRef} {o : Nat} (hS : hSt n R o) {f : hMem} {lv c : Nat} (hW : SW f lv c) (hc : c < 20) (kd fuel lev : Int32) : hCt l z m_X4_admit [.ref (z.1 + o), kv z.2.1 kd, .int fuel, .int lev] n (putS M o f) R n (some (.int (nI c))) (putS M o (sAdm f c kd fuel lev)) R := by
  refine hs_start [some (.ref (z.1 + o)), some (kv z.2.1 kd), some (.int fuel), some (.int lev), none] (by decide +kernel) rfl (by intro u hu; simp at hu; rcases hu with rfl | rfl | rfl | rfl <;> first | rfl | exact isR_cat kv_isR | exact isR_cat aref_isR) (Nat.le_of_ble_eq_true rfl) (Nat.le_refl _) (fun X hlX hN hC hQ => ?_)
  dsimp only at hC hQ
  refine gx_aload_n (i := 0) hC dX4_admit_0 rfl rfl (by first | exact Or.inr ⟨_, rfl⟩ | exact Or.inl rfl | exact kv_isR | exact aref_isR) ?_
  refine gx_getI hC dX4_admit_1 fl_X4_47 (by first | exact hS.at | exact hS.aa | exact hS.ah | exact hS.ac (by assumption) | exact hS.ac (by omega)) (by decide) (pS0.trans hW.ct) ?_
  refine gx_if_lt (tgt := 19) hC dX4_admit_4 (by decide) (fun c_4 => ?_) (fun c_4 => ?_)
  · exact absurd c_4 (by rw [Int32.lt_iff_toInt_lt, nI_toInt (by omega), Int32.toInt_zero]; omega)
  · refine gx_aload_n (i := 0) hC dX4_admit_7 rfl rfl (by first | exact Or.inr ⟨_, rfl⟩ | exact Or.inl rfl | exact kv_isR | exact aref_isR) ?_
    refine gx_getI hC dX4_admit_8 fl_X4_47 (by first | exact hS.at | exact hS.aa | exact hS.ah | exact hS.ac (by assumption) | exact hS.ac (by omega)) (by decide) (pS0.trans hW.ct) ?_
    refine gx_aload_n (i := 0) hC dX4_admit_11 rfl rfl (by first | exact Or.inr ⟨_, rfl⟩ | exact Or.inl rfl | exact kv_isR | exact aref_isR) ?_
    refine gx_getR hC dX4_admit_12 fl_X4_11 (by first | exact hS.at | exact hS.aa | exact hS.ah | exact hS.ac (by assumption) | exact hS.ac (by omega)) rfl (hS.ra) (by have := hS.1; omega) ?_
    refine gx_alenN hC dX4_admit_15 (by first | exact hS.at | exact hS.aa | exact hS.ah | exact hS.ac (by assumption) | exact hS.ac (by omega)) (by decide) ?_
    refine gx_icmp_lt (tgt := 22) hC dX4_admit_16 (by decide) (fun c_16 => ?_) (fun c_16 => ?_)
    · refine gx_aload_n (i := 0) hC dX4_admit_22 rfl rfl (by first | exact Or.inr ⟨_, rfl⟩ | exact Or.inl rfl | exact kv_isR | exact aref_isR) ?_
      refine gx_getR hC dX4_admit_23 fl_X4_11 (by first | exact hS.at | exact hS.aa | exact hS.ah | exact hS.ac (by assumption) | exact hS.ac (by omega)) rfl (hS.ra) (by have := hS.1; omega) ?_
      refine gx_aload_n (i := 0) hC dX4_admit_26 rfl rfl (by first | exact Or.inr ⟨_, rfl⟩ | exact Or.inl rfl | exact kv_isR | exact aref_isR) ?_
      refine gx_getI hC dX4_admit_27 fl_X4_47 (by first | exact hS.at | exact hS.aa | exact hS.ah | exact hS.ac (by assumption) | exact hS.ac (by omega)) (by decide) (pS0.trans hW.ct) ?_
      refine gx_aald hC dX4_admit_30 (by first | exact hS.at | exact hS.aa | exact hS.ah | exact hS.ac (by assumption) | exact hS.ac (by omega)) (by first | exact Or.inl rfl | exact Or.inr rfl) (by exact vpn hc (by decide)) ((congrArg (R (o + 1)) (nI_clamp (by omega))).trans (hS.rc hc)) (by have := hS.1; omega) ?_
      refine gx_astore (i := 4) (L' := [_, _, _, _, _]) hC dX4_admit_31 (Nat.le_of_ble_eq_true rfl) rfl (fun u h9 => by first | exact Or.inl rfl | (cases h9; done) | (right; cases h9; first | rfl | exact isR_cat aref_isR | exact isR_cat kv_isR)) (by first | exact Or.inr ⟨_, rfl⟩ | exact Or.inl rfl | exact kv_isR | exact aref_isR) ?_
      refine gx_aload_n (i := 0) hC dX4_admit_33 rfl rfl (by first | exact Or.inr ⟨_, rfl⟩ | exact Or.inl rfl | exact kv_isR | exact aref_isR) ?_
      refine gx_dup hC dX4_admit_34 (by first | rfl | exact isR_cat kv_isR | exact isR_cat aref_isR) ?_
      refine gx_getI hC dX4_admit_35 fl_X4_47 (by first | exact hS.at | exact hS.aa | exact hS.ah | exact hS.ac (by assumption) | exact hS.ac (by omega)) (by decide) (pS0.trans hW.ct) ?_
      refine gx_iconst (v := 1) hC dX4_admit_38 ic_1 ?_
      refine gx_iadd hC dX4_admit_39 ?_
      refine gx_putI hC dX4_admit_40 fl_X4_47 (by first | exact hS.at | exact hS.aa | exact hS.ah | exact hS.ac (by assumption) | exact hS.ac (by omega)) fn_3_2 rfl (up_S0) ?_
      refine gx_aload hC dX4_admit_43 rfl (by first | exact Or.inr ⟨_, rfl⟩ | exact Or.inl rfl | exact kv_isR | exact aref_isR) ?_
      refine gx_aload_n (i := 1) hC dX4_admit_45 rfl rfl (by first | exact Or.inr ⟨_, rfl⟩ | exact Or.inl rfl | exact kv_isR | exact aref_isR) ?_
      refine gx_putE hC dX4_admit_46 fl_X4_107 (by first | exact hS.at | exact hS.aa | exact hS.ah | exact hS.ac (by assumption) | exact hS.ac (by omega)) fn_0_1 rfl (up_S (by omega)) ?_
      refine gx_aload hC dX4_admit_49 rfl (by first | exact Or.inr ⟨_, rfl⟩ | exact Or.inl rfl | exact kv_isR | exact aref_isR) ?_
      refine gx_iload_n (i := 2) hC dX4_admit_51 rfl rfl ?_
      refine gx_putI hC dX4_admit_52 fl_X4_111 (by first | exact hS.at | exact hS.aa | exact hS.ah | exact hS.ac (by assumption) | exact hS.ac (by omega)) fn_0_2 rfl (up_S (by omega)) ?_
      refine gx_aload hC dX4_admit_55 rfl (by first | exact Or.inr ⟨_, rfl⟩ | exact Or.inl rfl | exact kv_isR | exact aref_isR) ?_
      refine gx_iconst (v := 0) hC dX4_admit_57 ic_0 ?_
      refine gx_putI hC dX4_admit_58 fl_X4_92 (by first | exact hS.at | exact hS.aa | exact hS.ah | exact hS.ac (by assumption) | exact hS.ac (by omega)) fn_0_3 rfl (up_S (by omega)) ?_
      refine gx_aload hC dX4_admit_61 rfl (by first | exact Or.inr ⟨_, rfl⟩ | exact Or.inl rfl | exact kv_isR | exact aref_isR) ?_
      refine gx_iload_n (i := 3) hC dX4_admit_63 rfl rfl ?_
      refine gx_putI hC dX4_admit_64 fl_X4_114 (by first | exact hS.at | exact hS.aa | exact hS.ah | exact hS.ac (by assumption) | exact hS.ac (by omega)) fn_0_4 rfl (up_S (by omega)) ?_
      refine gx_aload hC dX4_admit_67 rfl (by first | exact Or.inr ⟨_, rfl⟩ | exact Or.inl rfl | exact kv_isR | exact aref_isR) ?_
      refine gx_iconst (v := 1) hC dX4_admit_69 ic_1 ?_
      refine gx_putI hC dX4_admit_70 fl_X4_85 (by first | exact hS.at | exact hS.aa | exact hS.ah | exact hS.ac (by assumption) | exact hS.ac (by omega)) fn_0_5 rfl (up_S (by omega)) ?_
      refine gx_aload hC dX4_admit_73 rfl (by first | exact Or.inr ⟨_, rfl⟩ | exact Or.inl rfl | exact kv_isR | exact aref_isR) ?_
      refine gx_iconst (v := 0) hC dX4_admit_75 ic_0 ?_
      refine gx_putZ hC dX4_admit_76 fl_X4_117 (by first | exact hS.at | exact hS.aa | exact hS.ah | exact hS.ac (by assumption) | exact hS.ac (by omega)) fn_0_6 rfl (by first | exact Or.inl rfl | exact Or.inr rfl | exact b2_bit _ | assumption) (up_S (by omega)) ?_
      refine gx_aload_n (i := 0) hC dX4_admit_79 rfl rfl (by first | exact Or.inr ⟨_, rfl⟩ | exact Or.inl rfl | exact kv_isR | exact aref_isR) ?_
      refine gx_iload_n (i := 3) hC dX4_admit_80 rfl rfl ?_
      refine gx_aload hC dX4_admit_81 rfl (by first | exact Or.inr ⟨_, rfl⟩ | exact Or.inl rfl | exact kv_isR | exact aref_isR) ?_
      refine gx_getI hC dX4_admit_83 fl_X4_120 (by first | exact hS.at | exact hS.aa | exact hS.ah | exact hS.ac (by assumption) | exact hS.ac (by omega)) (by decide) ((pSj (by omega)).trans (show _ = nI c from by simp [up2, sSetH_off (show 3 + c ≠ 2 by omega), hW.nu hc])) ?_
      refine gx_callV0 hC dX4_admit_86 (c_X4_setHolder _ _ hS _ _) kY_X4_setHolder kV_X4_setHolder ml_X4_123 (by first | exact hS.at | exact hS.aa | exact hS.ah | exact hS.ac (by assumption) | exact hS.ac (by omega)) rfl (by decide) rfl rfl rfl (by first | exact Nat.le_of_ble_eq_true rfl | (simp [Value.category, isR_cat kv_isR, isR_cat aref_isR]; done)) (Nat.le_refl _) (Nat.le_refl _) ?_
      refine gx_aload_n (i := 0) hC dX4_admit_89 rfl rfl (by first | exact Or.inr ⟨_, rfl⟩ | exact Or.inl rfl | exact kv_isR | exact aref_isR) ?_
      refine gx_dup hC dX4_admit_90 (by first | rfl | exact isR_cat kv_isR | exact isR_cat aref_isR) ?_
      refine gx_getI hC dX4_admit_91 fl_X4_59 (by first | exact hS.at | exact hS.aa | exact hS.ah | exact hS.ac (by assumption) | exact hS.ac (by omega)) (by decide) (pS0) ?_
      refine gx_iload_n (i := 2) hC dX4_admit_94 rfl rfl ?_
      refine gx_iadd hC dX4_admit_95 ?_
      refine gx_putI hC dX4_admit_96 fl_X4_59 (by first | exact hS.at | exact hS.aa | exact hS.ah | exact hS.ac (by assumption) | exact hS.ac (by omega)) fn_3_11 rfl (up_S0) ?_
      refine gx_aload_n (i := 0) hC dX4_admit_99 rfl rfl (by first | exact Or.inr ⟨_, rfl⟩ | exact Or.inl rfl | exact kv_isR | exact aref_isR) ?_
      refine gx_iconst (v := 0) hC dX4_admit_100 ic_0 ?_
      refine gx_putI hC dX4_admit_101 fl_X4_71 (by first | exact hS.at | exact hS.aa | exact hS.ah | exact hS.ac (by assumption) | exact hS.ac (by omega)) fn_3_15 rfl (up_S0) ?_
      refine gx_aload hC dX4_admit_104 rfl (by first | exact Or.inr ⟨_, rfl⟩ | exact Or.inl rfl | exact kv_isR | exact aref_isR) ?_
      refine gx_getI hC dX4_admit_106 fl_X4_120 (by first | exact hS.at | exact hS.aa | exact hS.ah | exact hS.ac (by assumption) | exact hS.ac (by omega)) (by decide) ((pSj (by omega)).trans (show _ = nI c from by simp [up2, sSetH_off (show 3 + c ≠ 2 by omega), hW.nu hc])) ?_
      exact gx_iret hC hQ dX4_admit_109 (rfl) (rfl) rfl
    · exact absurd ((nI_ltI (by omega) (by decide)).mpr hc) c_16
set_option maxHeartbeats 4000000 in
set_option maxRecDepth 20000 in
theorem c_X4_markCalled (l : Launch) (z : hZt) {n : Nat} {M : hMem} {R : hRef} {o : Nat} (hS : hSt n R o) {f : hMem} {j : Nat} (x : Int32) (hj : sNum f x = some j) : hCt l z m_X4_markCalled [.ref (z.1 + o), .int x] n (putS M o f) R n (some (.int (f (3 + j) 4))) (putS M o (up2 f (3 + j) 6 1)) R := by
  refine hs_start [some (.ref (z.1 + o)), some (.int x), none] (by decide +kernel) rfl (by intro u hu; simp at hu; rcases hu with rfl | rfl <;> first | rfl | exact isR_cat kv_isR | exact isR_cat aref_isR) (Nat.le_of_ble_eq_true rfl) (Nat.le_refl _) (fun X hlX hN hC hQ => ?_)
  dsimp only at hC hQ
  refine gx_aload_n (i := 0) hC dX4_markCalled_0 rfl rfl (by first | exact Or.inr ⟨_, rfl⟩ | exact Or.inl rfl | exact kv_isR | exact aref_isR) ?_
  refine gx_iload_n (i := 1) hC dX4_markCalled_1 rfl rfl ?_
  refine gx_callV1 hC dX4_markCalled_2 (c_X4_numbered _ _ hS _) kY_X4_numbered kV_X4_numbered ml_X4_74 (by first | exact hS.at | exact hS.aa | exact hS.ah | exact hS.ac (by assumption) | exact hS.ac (by omega)) rfl (by decide) rfl rfl rfl (by first | exact Nat.le_of_ble_eq_true rfl | (simp [Value.category, isR_cat kv_isR, isR_cat aref_isR]; done)) (Nat.le_refl _) (Nat.le_refl _) ?_
  refine gx_astore_n (i := 2) (L' := [_, _, _]) hC dX4_markCalled_5 rfl (Nat.le_of_ble_eq_true rfl) rfl (fun u h9 => by first | exact Or.inl rfl | (cases h9; done) | (right; cases h9; first | rfl | exact isR_cat aref_isR | exact isR_cat kv_isR)) (by first | exact Or.inr ⟨_, rfl⟩ | exact Or.inl rfl | exact kv_isR | exact aref_isR) ?_
  refine gx_aload_n (i := 2) hC dX4_markCalled_6 rfl rfl (by first | exact Or.inr ⟨_, rfl⟩ | exact Or.inl rfl | exact kv_isR | exact aref_isR) ?_
  refine gx_ifnonnull_o (tgt := 12) hC dX4_markCalled_7 (by decide) (fun j_7 c_7 => ?_) (fun c_7 => ?_)
  · obtain rfl : j_7 = j := by rw [hj] at c_7; exact (Option.some.inj c_7).symm
    have hj_7 := sNum_lt c_7
    simp only [c_7, aref_some]
    refine gx_aload_n (i := 2) hC dX4_markCalled_12 rfl rfl (by first | exact Or.inr ⟨_, rfl⟩ | exact Or.inl rfl | exact kv_isR | exact aref_isR) ?_
    refine gx_iconst (v := 1) hC dX4_markCalled_13 ic_1 ?_
    refine gx_putZ hC dX4_markCalled_14 fl_X4_117 (by first | exact hS.at | exact hS.aa | exact hS.ah | exact hS.ac (by assumption) | exact hS.ac (by omega)) fn_0_6 rfl (by first | exact Or.inl rfl | exact Or.inr rfl | exact b2_bit _ | assumption) (up_S (by omega)) ?_
    refine gx_aload_n (i := 2) hC dX4_markCalled_17 rfl rfl (by first | exact Or.inr ⟨_, rfl⟩ | exact Or.inl rfl | exact kv_isR | exact aref_isR) ?_
    refine gx_getI hC dX4_markCalled_18 fl_X4_114 (by first | exact hS.at | exact hS.aa | exact hS.ah | exact hS.ac (by assumption) | exact hS.ac (by omega)) (by decide) ((pSj (by omega)).trans (up2_off (by omega))) ?_
    exact gx_iret hC hQ dX4_markCalled_21 (rfl) (rfl) rfl
  · rw [hj] at c_7; cases c_7
def bMay (f : hMem) (c : Nat) : Bool := decide (¬ f 0 6 = 0 ∧ 0 < sCnt f 0 c)
set_option maxHeartbeats 4000000 in
set_option maxRecDepth 20000 in
theorem c_X4_mayLand (l : Launch) (z : hZt) {n : Nat} {M : hMem} {R : hRef} {o : Nat} (hS : hSt n R o) {f : hMem} {lv c : Nat} (hW : SW f lv c) : hCt l z m_X4_mayLand [.ref (z.1 + o)] n (putS M o f) R n (some (.int (b2 (bMay f c)))) (putS M o f) R := by
  refine hs_start [some (.ref (z.1 + o))] (by decide +kernel) rfl (by intro u hu; simp at hu; subst hu <;> first | rfl | exact isR_cat kv_isR | exact isR_cat aref_isR) (Nat.le_of_ble_eq_true rfl) (Nat.le_refl _) (fun X hlX hN hC hQ => ?_)
  dsimp only at hC hQ
  refine gx_aload_n (i := 0) hC dX4_mayLand_0 rfl rfl (by first | exact Or.inr ⟨_, rfl⟩ | exact Or.inl rfl | exact kv_isR | exact aref_isR) ?_
  refine gx_getZ hC dX4_mayLand_1 fl_X4_31 (by first | exact hS.at | exact hS.aa | exact hS.ah | exact hS.ac (by assumption) | exact hS.ac (by omega)) rfl (pS0) (fun hz_1 => ?_)
  refine gx_if_eq (tgt := 19) hC dX4_mayLand_4 (by decide) (fun c_4 => ?_) (fun c_4 => ?_)
  · refine gx_iconst (v := 0) hC dX4_mayLand_19 ic_0 ?_
    exact gx_zret hC hQ dX4_mayLand_20 (by first | exact Or.inl rfl | exact Or.inr rfl | exact b2_bit _ | assumption) (by first | exact bv1 (by unfold bMay; exact decide_eq_true (by (clear hQ hC hN hlX; simp only [Int32.le_iff_toInt_le, Int32.lt_iff_toInt_lt, Int32.not_le, Int32.not_lt, ← Int32.toInt_inj, i32c_0, i32c_1, i32c_2, i32c_3, i32c_4, i32c_5, i32c_6, i32c_7, i32c_8, i32c_9, i32c_16, i32c_20, i32c_99, i32c_m1, i32c_m6, ni_16, ni_20, ni_80, ni_2, ni_5, ni_0, ne_eq] at *; omega))) | exact bv0 (by unfold bMay; exact decide_eq_false (by (clear hQ hC hN hlX; simp only [Int32.le_iff_toInt_le, Int32.lt_iff_toInt_lt, Int32.not_le, Int32.not_lt, ← Int32.toInt_inj, i32c_0, i32c_1, i32c_2, i32c_3, i32c_4, i32c_5, i32c_6, i32c_7, i32c_8, i32c_9, i32c_16, i32c_20, i32c_99, i32c_m1, i32c_m6, ni_16, ni_20, ni_80, ni_2, ni_5, ni_0, ne_eq] at *; omega)))) (rfl) rfl
  · refine gx_aload_n (i := 0) hC dX4_mayLand_7 rfl rfl (by first | exact Or.inr ⟨_, rfl⟩ | exact Or.inl rfl | exact kv_isR | exact aref_isR) ?_
    refine gx_iconst (v := 0) hC dX4_mayLand_8 ic_0 ?_
    refine gx_callV1 hC dX4_mayLand_9 (c_X4_countOf _ _ hS hW _) kY_X4_countOf kV_X4_countOf ml_X4_103 (by first | exact hS.at | exact hS.aa | exact hS.ah | exact hS.ac (by assumption) | exact hS.ac (by omega)) rfl (by decide) rfl rfl rfl (by first | exact Nat.le_of_ble_eq_true rfl | (simp [Value.category, isR_cat kv_isR, isR_cat aref_isR]; done)) (Nat.le_refl _) (Nat.le_refl _) ?_
    refine gx_if_le (tgt := 19) hC dX4_mayLand_12 (by decide) (fun c_12 => ?_) (fun c_12 => ?_)
    · refine gx_iconst (v := 0) hC dX4_mayLand_19 ic_0 ?_
      exact gx_zret hC hQ dX4_mayLand_20 (by first | exact Or.inl rfl | exact Or.inr rfl | exact b2_bit _ | assumption) (by first | exact bv1 (by unfold bMay; exact decide_eq_true (by (clear hQ hC hN hlX; simp only [Int32.le_iff_toInt_le, Int32.lt_iff_toInt_lt, Int32.not_le, Int32.not_lt, ← Int32.toInt_inj, i32c_0, i32c_1, i32c_2, i32c_3, i32c_4, i32c_5, i32c_6, i32c_7, i32c_8, i32c_9, i32c_16, i32c_20, i32c_99, i32c_m1, i32c_m6, ni_16, ni_20, ni_80, ni_2, ni_5, ni_0, ne_eq] at *; omega))) | exact bv0 (by unfold bMay; exact decide_eq_false (by (clear hQ hC hN hlX; simp only [Int32.le_iff_toInt_le, Int32.lt_iff_toInt_lt, Int32.not_le, Int32.not_lt, ← Int32.toInt_inj, i32c_0, i32c_1, i32c_2, i32c_3, i32c_4, i32c_5, i32c_6, i32c_7, i32c_8, i32c_9, i32c_16, i32c_20, i32c_99, i32c_m1, i32c_m6, ni_16, ni_20, ni_80, ni_2, ni_5, ni_0, ne_eq] at *; omega)))) (rfl) rfl
    · refine gx_iconst (v := 1) hC dX4_mayLand_15 ic_1 ?_
      refine gx_goto (tgt := 20) hC dX4_mayLand_16 (by decide) ?_
      exact gx_zret hC hQ dX4_mayLand_20 (by first | exact Or.inl rfl | exact Or.inr rfl | exact b2_bit _ | assumption) (by first | exact bv1 (by unfold bMay; exact decide_eq_true (by (clear hQ hC hN hlX; simp only [Int32.le_iff_toInt_le, Int32.lt_iff_toInt_lt, Int32.not_le, Int32.not_lt, ← Int32.toInt_inj, i32c_0, i32c_1, i32c_2, i32c_3, i32c_4, i32c_5, i32c_6, i32c_7, i32c_8, i32c_9, i32c_16, i32c_20, i32c_99, i32c_m1, i32c_m6, ni_16, ni_20, ni_80, ni_2, ni_5, ni_0, ne_eq] at *; omega))) | exact bv0 (by unfold bMay; exact decide_eq_false (by (clear hQ hC hN hlX; simp only [Int32.le_iff_toInt_le, Int32.lt_iff_toInt_lt, Int32.not_le, Int32.not_lt, ← Int32.toInt_inj, i32c_0, i32c_1, i32c_2, i32c_3, i32c_4, i32c_5, i32c_6, i32c_7, i32c_8, i32c_9, i32c_16, i32c_20, i32c_99, i32c_m1, i32c_m6, ni_16, ni_20, ni_80, ni_2, ni_5, ni_0, ne_eq] at *; omega)))) (rfl) rfl
def sLeave (f : hMem) (j : Nat) (s : Int32) : hMem := up2 (up2 (sSetH f (f (3 + j) 4) (-6)) (3 + j) 3 s) (3 + j) 7 (f 0 9)
set_option maxHeartbeats 4000000 in
set_option maxRecDepth 20000 in
theorem c_X4_leave (l : Launch) (z : hZt) {n : Nat} {M : hMem} {R : hRef} {o : Nat} (hS : hSt n R o) {f : hMem} {j : Nat} (hj : j < 20) (s : Int32) : hCt l z m_X4_leave [.ref (z.1 + o), .ref (z.1 + (o + (3 + j))), .int s] n (putS M o f) R n none (putS M o (sLeave f j s)) R := by
  refine hs_start [some (.ref (z.1 + o)), some (.ref (z.1 + (o + (3 + j)))), some (.int s)] (by decide +kernel) rfl (by intro u hu; simp at hu; rcases hu with rfl | rfl | rfl <;> first | rfl | exact isR_cat kv_isR | exact isR_cat aref_isR) (Nat.le_of_ble_eq_true rfl) (Nat.le_refl _) (fun X hlX hN hC hQ => ?_)
  dsimp only at hC hQ
  refine gx_aload_n (i := 0) hC dX4_leave_0 rfl rfl (by first | exact Or.inr ⟨_, rfl⟩ | exact Or.inl rfl | exact kv_isR | exact aref_isR) ?_
  refine gx_aload_n (i := 1) hC dX4_leave_1 rfl rfl (by first | exact Or.inr ⟨_, rfl⟩ | exact Or.inl rfl | exact kv_isR | exact aref_isR) ?_
  refine gx_getI hC dX4_leave_2 fl_X4_114 (by first | exact hS.at | exact hS.aa | exact hS.ah | exact hS.ac (by assumption) | exact hS.ac (by omega)) (by decide) (pSj (by omega)) ?_
  refine gx_bipush (v := -6) hC dX4_leave_5 bp_m6 ?_
  refine gx_callV0 hC dX4_leave_7 (c_X4_setHolder _ _ hS _ _) kY_X4_setHolder kV_X4_setHolder ml_X4_123 (by first | exact hS.at | exact hS.aa | exact hS.ah | exact hS.ac (by assumption) | exact hS.ac (by omega)) rfl (by decide) rfl rfl rfl (by first | exact Nat.le_of_ble_eq_true rfl | (simp [Value.category, isR_cat kv_isR, isR_cat aref_isR]; done)) (Nat.le_refl _) (Nat.le_refl _) ?_
  refine gx_aload_n (i := 1) hC dX4_leave_10 rfl rfl (by first | exact Or.inr ⟨_, rfl⟩ | exact Or.inl rfl | exact kv_isR | exact aref_isR) ?_
  refine gx_iload_n (i := 2) hC dX4_leave_11 rfl rfl ?_
  refine gx_putI hC dX4_leave_12 fl_X4_92 (by first | exact hS.at | exact hS.aa | exact hS.ah | exact hS.ac (by assumption) | exact hS.ac (by omega)) fn_0_3 rfl (up_S (by omega)) ?_
  refine gx_aload_n (i := 1) hC dX4_leave_15 rfl rfl (by first | exact Or.inr ⟨_, rfl⟩ | exact Or.inl rfl | exact kv_isR | exact aref_isR) ?_
  refine gx_aload_n (i := 0) hC dX4_leave_16 rfl rfl (by first | exact Or.inr ⟨_, rfl⟩ | exact Or.inl rfl | exact kv_isR | exact aref_isR) ?_
  refine gx_getI hC dX4_leave_17 fl_X4_53 (by first | exact hS.at | exact hS.aa | exact hS.ah | exact hS.ac (by assumption) | exact hS.ac (by omega)) (by decide) (pS0.trans ((up2_off (by omega)).trans (sSetH_off (by decide)))) ?_
  refine gx_putI hC dX4_leave_20 fl_X4_173 (by first | exact hS.at | exact hS.aa | exact hS.ah | exact hS.ac (by assumption) | exact hS.ac (by omega)) fn_0_7 rfl (up_S (by omega)) ?_
  exact gx_vret hC hQ dX4_leave_23 (rfl) rfl
def sBurn (f : hMem) (j : Nat) : hMem := up2 (up2 f (3 + j) 2 (f (3 + j) 2 - aBm f (3 + j))) 0 12 (f 0 12 + aBm f (3 + j))
def sBF (f : hMem) (j : Nat) : hMem := up2 (sBurn f j) (3 + j) 5 (aFly (sBurn f j) (3 + j) (sBurn f j 0 4))
def bf (f : hMem) : Nat → hMem
  | 0 => f
  | i + 1 => match sHold (bf f i) (nI i) with
    | none => bf f i
    | some j => sBF (bf f i) j
theorem bf_none {f : hMem} {i : Nat} (h : sHold (bf f i) (nI i) = none) : bf f (i + 1) = bf f i := by rw [bf, h]
theorem bf_some {f : hMem} {i j : Nat} (h : sHold (bf f i) (nI i) = some j) : bf f (i + 1) = sBF (bf f i) j := by rw [bf, h]
theorem SWbf {f : hMem} {lv c : Nat} (h : SW f lv c) (i : Nat) : SW (bf f i) lv c := by
  induction i with
  | zero => exact h
  | succ i ih =>
    cases hh : sHold (bf f i) (nI i) with
    | none => rw [bf_none hh]; exact ih
    | some j => rw [bf_some hh]; exact ((ih.up (by omega) (by omega)).up (by omega) (by omega)).up (by omega) (by omega)
set_option maxHeartbeats 4000000 in
set_option maxRecDepth 20000 in
theorem c_X4_burnAndFly (l : Launch) (z : hZt) {n : Nat} {M : hMem} {R : hRef} {o : Nat} (hS : hSt n R o) {f : hMem} {lv c : Nat} (hW : SW f lv c) : hCt l z m_X4_burnAndFly [.ref (z.1 + o)] n (putS M o f) R n none (putS M o (bf f lv)) R := by
  refine hs_start [some (.ref (z.1 + o)), none, none] (by decide +kernel) rfl (by intro u hu; simp at hu; subst hu <;> first | rfl | exact isR_cat kv_isR | exact isR_cat aref_isR) (Nat.le_of_ble_eq_true rfl) (Nat.le_refl _) (fun X hlX hN hC hQ => ?_)
  dsimp only at hC hQ
  have hl16 := hW.l16
  refine gx_iconst (v := nI 0) hC dX4_burnAndFly_0 ic_0n ?_
  refine gx_istore_n (i := 1) (L' := [_, _, _]) hC dX4_burnAndFly_1 rfl (Nat.le_of_ble_eq_true rfl) rfl (fun u h9 => by first | exact Or.inl rfl | (cases h9; done) | (right; cases h9; first | rfl | exact isR_cat aref_isR | exact isR_cat kv_isR)) ?_
  have loop_2 : ∀ (k : Nat) (i : Nat) (w : Option Value), lv - i < k → i ≤ lv → hG z n X n (putS M o (bf f i)) R 2 [some (.ref (z.1 + o)), some (.int (nI i)), w] [] := by
    intro k
    induction k with
    | zero => intros; omega
    | succ k ih =>
      intro i w hk1 hi
      refine gx_iload_n (i := 1) hC dX4_burnAndFly_2 rfl rfl ?_
      refine gx_aload_n (i := 0) hC dX4_burnAndFly_3 rfl rfl (by first | exact Or.inr ⟨_, rfl⟩ | exact Or.inl rfl | exact kv_isR | exact aref_isR) ?_
      refine gx_getI hC dX4_burnAndFly_4 fl_X4_21 (by first | exact hS.at | exact hS.aa | exact hS.ah | exact hS.ac (by assumption) | exact hS.ac (by omega)) (by decide) (pS0.trans (SWbf hW i).lv) ?_
      refine gx_icmp_ge (tgt := 47) hC dX4_burnAndFly_7 (by decide) (fun c_7 => ?_) (fun c_7 => ?_)
      · have d_7 := cle (by omega) (by omega) c_7
        exact gx_vret hC hQ dX4_burnAndFly_47 (by rw [show lv = i by omega]) rfl
      · have d_7 := cnle (by omega) (by omega) c_7
        refine gx_aload_n (i := 0) hC dX4_burnAndFly_10 rfl rfl (by first | exact Or.inr ⟨_, rfl⟩ | exact Or.inl rfl | exact kv_isR | exact aref_isR) ?_
        refine gx_iload_n (i := 1) hC dX4_burnAndFly_11 rfl rfl ?_
        refine gx_callV1 hC dX4_burnAndFly_12 (c_X4_holderOf _ _ hS _) kY_X4_holderOf kV_X4_holderOf ml_X4_82 (by first | exact hS.at | exact hS.aa | exact hS.ah | exact hS.ac (by assumption) | exact hS.ac (by omega)) rfl (by decide) rfl rfl rfl (by first | exact Nat.le_of_ble_eq_true rfl | (simp [Value.category, isR_cat kv_isR, isR_cat aref_isR]; done)) (Nat.le_refl _) (Nat.le_refl _) ?_
        refine gx_astore_n (i := 2) (L' := [_, _, _]) hC dX4_burnAndFly_15 rfl (Nat.le_of_ble_eq_true rfl) rfl (fun u h9 => by first | exact Or.inl rfl | (cases h9; done) | (right; cases h9; first | rfl | exact isR_cat aref_isR | exact isR_cat kv_isR)) (by first | exact Or.inr ⟨_, rfl⟩ | exact Or.inl rfl | exact kv_isR | exact aref_isR) ?_
        refine gx_aload_n (i := 2) hC dX4_burnAndFly_16 rfl rfl (by first | exact Or.inr ⟨_, rfl⟩ | exact Or.inl rfl | exact kv_isR | exact aref_isR) ?_
        refine gx_ifnull_o (tgt := 41) hC dX4_burnAndFly_17 (by decide) (fun c_17 => ?_) (fun j_17 c_17 => ?_)
        · try simp only [c_17, aref_none]
          refine gx_iinc (i := 1) (L' := [_, _, _]) hC dX4_burnAndFly_41 rfl (ii_1 _) (Nat.le_of_ble_eq_true rfl) rfl (fun u h9 => by first | exact Or.inl rfl | (cases h9; done) | (right; cases h9; first | rfl | exact isR_cat aref_isR | exact isR_cat kv_isR)) ?_
          refine gx_goto (tgt := 2) hC dX4_burnAndFly_44 (by decide) ?_
          have h9 := fun w => ih (i + 1) w (by omega) (by omega)
          first | (rw [bf_none c_17] at h9; exact h9 _) | (rw [bf_some c_17] at h9; exact h9 _)
        · have hj_17 := sHold_lt c_17
          simp only [c_17, aref_some]
          refine gx_aload_n (i := 0) hC dX4_burnAndFly_20 rfl rfl (by first | exact Or.inr ⟨_, rfl⟩ | exact Or.inl rfl | exact kv_isR | exact aref_isR) ?_
          refine gx_dup hC dX4_burnAndFly_21 (by first | rfl | exact isR_cat kv_isR | exact isR_cat aref_isR) ?_
          refine gx_getI hC dX4_burnAndFly_22 fl_X4_62 (by first | exact hS.at | exact hS.aa | exact hS.ah | exact hS.ac (by assumption) | exact hS.ac (by omega)) (by decide) (pS0) ?_
          refine gx_aload_n (i := 2) hC dX4_burnAndFly_25 rfl rfl (by first | exact Or.inr ⟨_, rfl⟩ | exact Or.inl rfl | exact kv_isR | exact aref_isR) ?_
          refine gx_callV1 hC dX4_burnAndFly_26 (d_X0_burnForMinute hS hj_17 ((SWbf hW i).kd hj_17)) kY_X0_burnForMinute kV_X0_burnForMinute ml_X4_147 (by first | exact hS.at | exact hS.aa | exact hS.ah | exact hS.ac (by assumption) | exact hS.ac (by omega)) rfl (by decide) rfl rfl rfl (by first | exact Nat.le_of_ble_eq_true rfl | (simp [Value.category, isR_cat kv_isR, isR_cat aref_isR]; done)) (Nat.le_refl _) (Nat.le_refl _) ?_
          refine gx_iadd hC dX4_burnAndFly_29 ?_
          refine gx_putI hC dX4_burnAndFly_30 fl_X4_62 (by first | exact hS.at | exact hS.aa | exact hS.ah | exact hS.ac (by assumption) | exact hS.ac (by omega)) fn_3_12 rfl (up_S0) ?_
          refine gx_aload_n (i := 2) hC dX4_burnAndFly_33 rfl rfl (by first | exact Or.inr ⟨_, rfl⟩ | exact Or.inl rfl | exact kv_isR | exact aref_isR) ?_
          refine gx_aload_n (i := 0) hC dX4_burnAndFly_34 rfl rfl (by first | exact Or.inr ⟨_, rfl⟩ | exact Or.inl rfl | exact kv_isR | exact aref_isR) ?_
          refine gx_getI hC dX4_burnAndFly_35 fl_X4_25 (by first | exact hS.at | exact hS.aa | exact hS.ah | exact hS.ac (by assumption) | exact hS.ac (by omega)) (by decide) (pS0) ?_
          refine gx_callV0 hC dX4_burnAndFly_38 (d_X0_flyMinute hS hj_17 _) kY_X0_flyMinute kV_X0_flyMinute ml_X4_150 (by first | exact hS.at | exact hS.aa | exact hS.ah | exact hS.ac (by assumption) | exact hS.ac (by omega)) rfl (by decide) rfl rfl rfl (by first | exact Nat.le_of_ble_eq_true rfl | (simp [Value.category, isR_cat kv_isR, isR_cat aref_isR]; done)) (Nat.le_refl _) (Nat.le_refl _) ?_
          refine gx_iinc (i := 1) (L' := [_, _, _]) hC dX4_burnAndFly_41 rfl (ii_1 _) (Nat.le_of_ble_eq_true rfl) rfl (fun u h9 => by first | exact Or.inl rfl | (cases h9; done) | (right; cases h9; first | rfl | exact isR_cat aref_isR | exact isR_cat kv_isR)) ?_
          refine gx_goto (tgt := 2) hC dX4_burnAndFly_44 (by decide) ?_
          have h9 := fun w => ih (i + 1) w (by omega) (by omega)
          first | (rw [bf_none c_17] at h9; exact h9 _) | (rw [bf_some c_17] at h9; exact h9 _)
  exact loop_2 (lv + 1) 0 _ (by omega) (by omega)
def sDv (f : hMem) (j : Nat) : hMem := if 2 * f (3 + j) 2 < kRes (f (3 + j) 1) then up2 (sLeave f j 2) 0 14 (sLeave f j 2 0 14 + sLeave f j 2 (3 + j) 2) else f
def dv (f : hMem) : Nat → hMem
  | 0 => f
  | i + 1 => match sHold (dv f i) (nI i) with
    | none => dv f i
    | some j => sDv (dv f i) j
theorem dv_none {f : hMem} {i : Nat} (h : sHold (dv f i) (nI i) = none) : dv f (i + 1) = dv f i := by rw [dv, h]
theorem dv_some {f : hMem} {i j : Nat} (h : sHold (dv f i) (nI i) = some j) : dv f (i + 1) = sDv (dv f i) j := by rw [dv, h]
theorem SWset {f : hMem} {lv c : Nat} {x v : Int32} (h : SW f lv c) : SW (sSetH f x v) lv c := by
  unfold sSetH
  split
  · exact h.up (by omega) (by omega)
  · exact h
theorem SWleave {f : hMem} {lv c j : Nat} {s : Int32} (h : SW f lv c) : SW (sLeave f j s) lv c := ((SWset h).up (by omega) (by omega)).up (by omega) (by omega)
theorem SWdv {f : hMem} {lv c : Nat} (h : SW f lv c) (i : Nat) : SW (dv f i) lv c := by
  induction i with
  | zero => exact h
  | succ i ih =>
    cases hh : sHold (dv f i) (nI i) with
    | none => rw [dv_none hh]; exact ih
    | some j =>
      rw [dv_some hh]
      unfold sDv
      split
      · exact (SWleave ih).up (by omega) (by omega)
      · exact ih
set_option maxHeartbeats 4000000 in
set_option maxRecDepth 20000 in
theorem c_X4_divertStarved (l : Launch) (z : hZt) {n : Nat} {M : hMem} {R : hRef} {o : Nat} (hS : hSt n R o) {f : hMem} {lv c : Nat} (hW : SW f lv c) : hCt l z m_X4_divertStarved [.ref (z.1 + o)] n (putS M o f) R n none (putS M o (dv f lv)) R := by
  refine hs_start [some (.ref (z.1 + o)), none, none] (by decide +kernel) rfl (by intro u hu; simp at hu; subst hu <;> first | rfl | exact isR_cat kv_isR | exact isR_cat aref_isR) (Nat.le_of_ble_eq_true rfl) (Nat.le_refl _) (fun X hlX hN hC hQ => ?_)
  dsimp only at hC hQ
  have hl16 := hW.l16
  refine gx_iconst (v := nI 0) hC dX4_divertStarved_0 ic_0n ?_
  refine gx_istore_n (i := 1) (L' := [_, _, _]) hC dX4_divertStarved_1 rfl (Nat.le_of_ble_eq_true rfl) rfl (fun u h9 => by first | exact Or.inl rfl | (cases h9; done) | (right; cases h9; first | rfl | exact isR_cat aref_isR | exact isR_cat kv_isR)) ?_
  have loop_2 : ∀ (k : Nat) (i : Nat) (w : Option Value), lv - i < k → i ≤ lv → hG z n X n (putS M o (dv f i)) R 2 [some (.ref (z.1 + o)), some (.int (nI i)), w] [] := by
    intro k
    induction k with
    | zero => intros; omega
    | succ k ih =>
      intro i w hk1 hi
      refine gx_iload_n (i := 1) hC dX4_divertStarved_2 rfl rfl ?_
      refine gx_aload_n (i := 0) hC dX4_divertStarved_3 rfl rfl (by first | exact Or.inr ⟨_, rfl⟩ | exact Or.inl rfl | exact kv_isR | exact aref_isR) ?_
      refine gx_getI hC dX4_divertStarved_4 fl_X4_21 (by first | exact hS.at | exact hS.aa | exact hS.ah | exact hS.ac (by assumption) | exact hS.ac (by omega)) (by decide) (pS0.trans (SWdv hW i).lv) ?_
      refine gx_icmp_ge (tgt := 52) hC dX4_divertStarved_7 (by decide) (fun c_7 => ?_) (fun c_7 => ?_)
      · have d_7 := cle (by omega) (by omega) c_7
        exact gx_vret hC hQ dX4_divertStarved_52 (by rw [show lv = i by omega]) rfl
      · have d_7 := cnle (by omega) (by omega) c_7
        refine gx_aload_n (i := 0) hC dX4_divertStarved_10 rfl rfl (by first | exact Or.inr ⟨_, rfl⟩ | exact Or.inl rfl | exact kv_isR | exact aref_isR) ?_
        refine gx_iload_n (i := 1) hC dX4_divertStarved_11 rfl rfl ?_
        refine gx_callV1 hC dX4_divertStarved_12 (c_X4_holderOf _ _ hS _) kY_X4_holderOf kV_X4_holderOf ml_X4_82 (by first | exact hS.at | exact hS.aa | exact hS.ah | exact hS.ac (by assumption) | exact hS.ac (by omega)) rfl (by decide) rfl rfl rfl (by first | exact Nat.le_of_ble_eq_true rfl | (simp [Value.category, isR_cat kv_isR, isR_cat aref_isR]; done)) (Nat.le_refl _) (Nat.le_refl _) ?_
        refine gx_astore_n (i := 2) (L' := [_, _, _]) hC dX4_divertStarved_15 rfl (Nat.le_of_ble_eq_true rfl) rfl (fun u h9 => by first | exact Or.inl rfl | (cases h9; done) | (right; cases h9; first | rfl | exact isR_cat aref_isR | exact isR_cat kv_isR)) (by first | exact Or.inr ⟨_, rfl⟩ | exact Or.inl rfl | exact kv_isR | exact aref_isR) ?_
        refine gx_aload_n (i := 2) hC dX4_divertStarved_16 rfl rfl (by first | exact Or.inr ⟨_, rfl⟩ | exact Or.inl rfl | exact kv_isR | exact aref_isR) ?_
        refine gx_ifnull_o (tgt := 46) hC dX4_divertStarved_17 (by decide) (fun c_17 => ?_) (fun j_17 c_17 => ?_)
        · try simp only [c_17, aref_none]
          refine gx_iinc (i := 1) (L' := [_, _, _]) hC dX4_divertStarved_46 rfl (ii_1 _) (Nat.le_of_ble_eq_true rfl) rfl (fun u h9 => by first | exact Or.inl rfl | (cases h9; done) | (right; cases h9; first | rfl | exact isR_cat aref_isR | exact isR_cat kv_isR)) ?_
          refine gx_goto (tgt := 2) hC dX4_divertStarved_49 (by decide) ?_
          have h9 := fun w => ih (i + 1) w (by omega) (by omega)
          first | (rw [dv_none c_17] at h9; exact h9 _) | (rw [dv_some c_17, sDv, if_pos d_24] at h9; exact h9 _) | (rw [dv_some c_17, sDv, if_neg d_24] at h9; exact h9 _)
        · have hj_17 := sHold_lt c_17
          simp only [c_17, aref_some]
          refine gx_aload_n (i := 2) hC dX4_divertStarved_20 rfl rfl (by first | exact Or.inr ⟨_, rfl⟩ | exact Or.inl rfl | exact kv_isR | exact aref_isR) ?_
          refine gx_callV1 hC dX4_divertStarved_21 (d_X0_mustDivert hS hj_17 ((SWdv hW i).kd hj_17)) kY_X0_mustDivert kV_X0_mustDivert ml_X4_153 (by first | exact hS.at | exact hS.aa | exact hS.ah | exact hS.ac (by assumption) | exact hS.ac (by omega)) rfl (by decide) rfl rfl rfl (by first | exact Nat.le_of_ble_eq_true rfl | (simp [Value.category, isR_cat kv_isR, isR_cat aref_isR]; done)) (Nat.le_refl _) (Nat.le_refl _) ?_
          refine gx_ifb_eq (tgt := 46) hC dX4_divertStarved_24 (by decide) (fun c_24 => ?_) (fun c_24 => ?_)
          · have d_24 := of_decide_eq_false c_24
            refine gx_iinc (i := 1) (L' := [_, _, _]) hC dX4_divertStarved_46 rfl (ii_1 _) (Nat.le_of_ble_eq_true rfl) rfl (fun u h9 => by first | exact Or.inl rfl | (cases h9; done) | (right; cases h9; first | rfl | exact isR_cat aref_isR | exact isR_cat kv_isR)) ?_
            refine gx_goto (tgt := 2) hC dX4_divertStarved_49 (by decide) ?_
            have h9 := fun w => ih (i + 1) w (by omega) (by omega)
            first | (rw [dv_none c_17] at h9; exact h9 _) | (rw [dv_some c_17, sDv, if_pos d_24] at h9; exact h9 _) | (rw [dv_some c_17, sDv, if_neg d_24] at h9; exact h9 _)
          · have d_24 := of_decide_eq_true c_24
            refine gx_aload_n (i := 0) hC dX4_divertStarved_27 rfl rfl (by first | exact Or.inr ⟨_, rfl⟩ | exact Or.inl rfl | exact kv_isR | exact aref_isR) ?_
            refine gx_aload_n (i := 2) hC dX4_divertStarved_28 rfl rfl (by first | exact Or.inr ⟨_, rfl⟩ | exact Or.inl rfl | exact kv_isR | exact aref_isR) ?_
            refine gx_iconst (v := 2) hC dX4_divertStarved_29 ic_2 ?_
            refine gx_callV0 hC dX4_divertStarved_30 (c_X4_leave _ _ hS hj_17 _) kY_X4_leave kV_X4_leave ml_X4_156 (by first | exact hS.at | exact hS.aa | exact hS.ah | exact hS.ac (by assumption) | exact hS.ac (by omega)) rfl (by decide) rfl rfl rfl (by first | exact Nat.le_of_ble_eq_true rfl | (simp [Value.category, isR_cat kv_isR, isR_cat aref_isR]; done)) (Nat.le_refl _) (Nat.le_refl _) ?_
            refine gx_aload_n (i := 0) hC dX4_divertStarved_33 rfl rfl (by first | exact Or.inr ⟨_, rfl⟩ | exact Or.inl rfl | exact kv_isR | exact aref_isR) ?_
            refine gx_dup hC dX4_divertStarved_34 (by first | rfl | exact isR_cat kv_isR | exact isR_cat aref_isR) ?_
            refine gx_getI hC dX4_divertStarved_35 fl_X4_68 (by first | exact hS.at | exact hS.aa | exact hS.ah | exact hS.ac (by assumption) | exact hS.ac (by omega)) (by decide) (pS0) ?_
            refine gx_aload_n (i := 2) hC dX4_divertStarved_38 rfl rfl (by first | exact Or.inr ⟨_, rfl⟩ | exact Or.inl rfl | exact kv_isR | exact aref_isR) ?_
            refine gx_getI hC dX4_divertStarved_39 fl_X4_111 (by first | exact hS.at | exact hS.aa | exact hS.ah | exact hS.ac (by assumption) | exact hS.ac (by omega)) (by decide) (pSj (by omega)) ?_
            refine gx_iadd hC dX4_divertStarved_42 ?_
            refine gx_putI hC dX4_divertStarved_43 fl_X4_68 (by first | exact hS.at | exact hS.aa | exact hS.ah | exact hS.ac (by assumption) | exact hS.ac (by omega)) fn_3_14 rfl (up_S0) ?_
            refine gx_iinc (i := 1) (L' := [_, _, _]) hC dX4_divertStarved_46 rfl (ii_1 _) (Nat.le_of_ble_eq_true rfl) rfl (fun u h9 => by first | exact Or.inl rfl | (cases h9; done) | (right; cases h9; first | rfl | exact isR_cat aref_isR | exact isR_cat kv_isR)) ?_
            refine gx_goto (tgt := 2) hC dX4_divertStarved_49 (by decide) ?_
            have h9 := fun w => ih (i + 1) w (by omega) (by omega)
            first | (rw [dv_none c_17] at h9; exact h9 _) | (rw [dv_some c_17, sDv, if_pos d_24] at h9; exact h9 _) | (rw [dv_some c_17, sDv, if_neg d_24] at h9; exact h9 _)
  exact loop_2 (lv + 1) 0 _ (by omega) (by omega)
def nxs (f : hMem) (q : Option Nat) (j : Nat) : Option Nat := if f (3 + j) 5 = 0 ∧ f (3 + j) 2 ≤ kRes (f (3 + j) 1) ∧ (∀ p, q = some p → f (3 + j) 2 < f (3 + p) 2) then some j else q
def nx (f : hMem) : Nat → Option Nat
  | 0 => none
  | i + 1 => match sHold f (nI i) with
    | none => nx f i
    | some j => nxs f (nx f i) j
theorem nx_none {f : hMem} {i : Nat} (h : sHold f (nI i) = none) : nx f (i + 1) = nx f i := by rw [nx, h]
theorem nx_some {f : hMem} {i j : Nat} (h : sHold f (nI i) = some j) : nx f (i + 1) = nxs f (nx f i) j := by rw [nx, h]
theorem nx_lt {f : hMem} {i p : Nat} (h : nx f i = some p) : p < 20 := by
  induction i with
  | zero => cases h
  | succ i ih =>
    cases hh : sHold f (nI i) with
    | none => rw [nx_none hh] at h; exact ih h
    | some j =>
      rw [nx_some hh] at h
      unfold nxs at h
      split at h
      · cases h; exact sHold_lt hh
      · exact ih h
theorem nsome {q : Option Nat} {P : Nat → Prop} (h : q = none) : ∀ p, q = some p → P p := fun p hp => nomatch (h.symm.trans hp)
theorem nsom2 {q : Option Nat} {P : Nat → Prop} {j : Nat} (h : q = some j) (hj : P j) : ∀ p, q = some p → P p := fun p hp => by cases h.symm.trans hp; exact hj
def sNext (f : hMem) (lv : Nat) : Option Nat := match nx f lv with
  | some j => some j
  | none => match sHold f 0 with
    | none => none
    | some j => if f (3 + j) 5 = 0 then some j else none
set_option maxHeartbeats 4000000 in
set_option maxRecDepth 20000 in
theorem c_X4_nextToLand (l : Launch) (z : hZt) {n : Nat} {M : hMem} {R : hRef} {o : Nat} (hS : hSt n R o) {f : hMem} {lv c : Nat} (hW : SW f lv c) : hCt l z m_X4_nextToLand [.ref (z.1 + o)] n (putS M o f) R n (some (aref z o (sNext f lv))) (putS M o f) R := by
  refine hs_start [some (.ref (z.1 + o)), none, none, none] (by decide +kernel) rfl (by intro u hu; simp at hu; subst hu <;> first | rfl | exact isR_cat kv_isR | exact isR_cat aref_isR) (Nat.le_of_ble_eq_true rfl) (Nat.le_refl _) (fun X hlX hN hC hQ => ?_)
  dsimp only at hC hQ
  have hl16 := hW.l16
  refine gx_aconst_null hC dX4_nextToLand_0 ?_
  refine gx_astore_n (i := 1) (L' := [_, _, _, _]) hC dX4_nextToLand_1 rfl (Nat.le_of_ble_eq_true rfl) rfl (fun u h9 => by first | exact Or.inl rfl | (cases h9; done) | (right; cases h9; first | rfl | exact isR_cat aref_isR | exact isR_cat kv_isR)) (by first | exact Or.inr ⟨_, rfl⟩ | exact Or.inl rfl | exact kv_isR | exact aref_isR) ?_
  refine gx_iconst (v := nI 0) hC dX4_nextToLand_2 ic_0n ?_
  refine gx_istore_n (i := 2) (L' := [_, _, _, _]) hC dX4_nextToLand_3 rfl (Nat.le_of_ble_eq_true rfl) rfl (fun u h9 => by first | exact Or.inl rfl | (cases h9; done) | (right; cases h9; first | rfl | exact isR_cat aref_isR | exact isR_cat kv_isR)) ?_
  have loop_4 : ∀ (k : Nat) (i : Nat) (w : Option Value), lv - i < k → i ≤ lv → hG z n X n (putS M o f) R 4 [some (.ref (z.1 + o)), some (aref z o (nx f i)), some (.int (nI i)), w] [] := by
    intro k
    induction k with
    | zero => intros; omega
    | succ k ih =>
      intro i w hk1 hi
      refine gx_iload_n (i := 2) hC dX4_nextToLand_4 rfl rfl ?_
      refine gx_aload_n (i := 0) hC dX4_nextToLand_5 rfl rfl (by first | exact Or.inr ⟨_, rfl⟩ | exact Or.inl rfl | exact kv_isR | exact aref_isR) ?_
      refine gx_getI hC dX4_nextToLand_6 fl_X4_21 (by first | exact hS.at | exact hS.aa | exact hS.ah | exact hS.ac (by assumption) | exact hS.ac (by omega)) (by decide) (pS0.trans hW.lv) ?_
      refine gx_icmp_ge (tgt := 59) hC dX4_nextToLand_9 (by decide) (fun c_9 => ?_) (fun c_9 => ?_)
      · obtain rfl : i = lv := by have := cle (by omega) (by omega) c_9; omega
        refine gx_aload_n (i := 1) hC dX4_nextToLand_59 rfl rfl (by first | exact Or.inr ⟨_, rfl⟩ | exact Or.inl rfl | exact kv_isR | exact aref_isR) ?_
        refine gx_ifnull_o (tgt := 65) hC dX4_nextToLand_60 (by decide) (fun c_60 => ?_) (fun j_60 c_60 => ?_)
        · try simp only [c_60, aref_none]
          refine gx_aload_n (i := 0) hC dX4_nextToLand_65 rfl rfl (by first | exact Or.inr ⟨_, rfl⟩ | exact Or.inl rfl | exact kv_isR | exact aref_isR) ?_
          refine gx_iconst (v := 0) hC dX4_nextToLand_66 ic_0 ?_
          refine gx_callV1 hC dX4_nextToLand_67 (c_X4_holderOf _ _ hS _) kY_X4_holderOf kV_X4_holderOf ml_X4_82 (by first | exact hS.at | exact hS.aa | exact hS.ah | exact hS.ac (by assumption) | exact hS.ac (by omega)) rfl (by decide) rfl rfl rfl (by first | exact Nat.le_of_ble_eq_true rfl | (simp [Value.category, isR_cat kv_isR, isR_cat aref_isR]; done)) (Nat.le_refl _) (Nat.le_refl _) ?_
          refine gx_astore_n (i := 2) (L' := [_, _, _, _]) hC dX4_nextToLand_70 rfl (Nat.le_of_ble_eq_true rfl) rfl (fun u h9 => by first | exact Or.inl rfl | (cases h9; done) | (right; cases h9; first | rfl | exact isR_cat aref_isR | exact isR_cat kv_isR)) (by first | exact Or.inr ⟨_, rfl⟩ | exact Or.inl rfl | exact kv_isR | exact aref_isR) ?_
          refine gx_aload_n (i := 2) hC dX4_nextToLand_71 rfl rfl (by first | exact Or.inr ⟨_, rfl⟩ | exact Or.inl rfl | exact kv_isR | exact aref_isR) ?_
          refine gx_ifnull_o (tgt := 86) hC dX4_nextToLand_72 (by decide) (fun c_72 => ?_) (fun j_72 c_72 => ?_)
          · try simp only [c_72, aref_none]
            refine gx_aconst_null hC dX4_nextToLand_86 ?_
            exact gx_aret hC hQ dX4_nextToLand_87 (by first | exact Or.inr ⟨_, rfl⟩ | exact Or.inl rfl | exact kv_isR | exact aref_isR) (by first | (unfold sNext; rw [c_60]; rfl) | (unfold sNext; rw [c_60]; simp only; rw [c_72]; rfl) | (unfold sNext; rw [c_60]; simp only; rw [c_72]; simp only; rw [if_pos (of_decide_eq_true c_79)]; rfl) | (unfold sNext; rw [c_60]; simp only; rw [c_72]; simp only; rw [if_neg (of_decide_eq_false c_79)]; rfl)) (rfl) rfl
          · have hj_72 := sHold_lt c_72
            simp only [c_72, aref_some]
            refine gx_aload_n (i := 2) hC dX4_nextToLand_75 rfl rfl (by first | exact Or.inr ⟨_, rfl⟩ | exact Or.inl rfl | exact kv_isR | exact aref_isR) ?_
            refine gx_callV1 hC dX4_nextToLand_76 (d_X0_isOverFix hS hj_72) kY_X0_isOverFix kV_X0_isOverFix ml_X4_167 (by first | exact hS.at | exact hS.aa | exact hS.ah | exact hS.ac (by assumption) | exact hS.ac (by omega)) rfl (by decide) rfl rfl rfl (by first | exact Nat.le_of_ble_eq_true rfl | (simp [Value.category, isR_cat kv_isR, isR_cat aref_isR]; done)) (Nat.le_refl _) (Nat.le_refl _) ?_
            refine gx_ifb_eq (tgt := 86) hC dX4_nextToLand_79 (by decide) (fun c_79 => ?_) (fun c_79 => ?_)
            · refine gx_aconst_null hC dX4_nextToLand_86 ?_
              exact gx_aret hC hQ dX4_nextToLand_87 (by first | exact Or.inr ⟨_, rfl⟩ | exact Or.inl rfl | exact kv_isR | exact aref_isR) (by first | (unfold sNext; rw [c_60]; rfl) | (unfold sNext; rw [c_60]; simp only; rw [c_72]; rfl) | (unfold sNext; rw [c_60]; simp only; rw [c_72]; simp only; rw [if_pos (of_decide_eq_true c_79)]; rfl) | (unfold sNext; rw [c_60]; simp only; rw [c_72]; simp only; rw [if_neg (of_decide_eq_false c_79)]; rfl)) (rfl) rfl
            · refine gx_aload_n (i := 2) hC dX4_nextToLand_82 rfl rfl (by first | exact Or.inr ⟨_, rfl⟩ | exact Or.inl rfl | exact kv_isR | exact aref_isR) ?_
              refine gx_goto (tgt := 87) hC dX4_nextToLand_83 (by decide) ?_
              exact gx_aret hC hQ dX4_nextToLand_87 (by first | exact Or.inr ⟨_, rfl⟩ | exact Or.inl rfl | exact kv_isR | exact aref_isR) (by first | (unfold sNext; rw [c_60]; rfl) | (unfold sNext; rw [c_60]; simp only; rw [c_72]; rfl) | (unfold sNext; rw [c_60]; simp only; rw [c_72]; simp only; rw [if_pos (of_decide_eq_true c_79)]; rfl) | (unfold sNext; rw [c_60]; simp only; rw [c_72]; simp only; rw [if_neg (of_decide_eq_false c_79)]; rfl)) (rfl) rfl
        · have hp_60 := nx_lt c_60
          simp only [c_60, aref_some]
          refine gx_aload_n (i := 1) hC dX4_nextToLand_63 rfl rfl (by first | exact Or.inr ⟨_, rfl⟩ | exact Or.inl rfl | exact kv_isR | exact aref_isR) ?_
          exact gx_aret hC hQ dX4_nextToLand_64 (by first | exact Or.inr ⟨_, rfl⟩ | exact Or.inl rfl | exact kv_isR | exact aref_isR) (by first | (unfold sNext; rw [c_60]; rfl) | (unfold sNext; rw [c_60]; simp only; rw [c_72]; rfl) | (unfold sNext; rw [c_60]; simp only; rw [c_72]; simp only; rw [if_pos (of_decide_eq_true c_79)]; rfl) | (unfold sNext; rw [c_60]; simp only; rw [c_72]; simp only; rw [if_neg (of_decide_eq_false c_79)]; rfl)) (rfl) rfl
      · have d_9 := cnle (by omega) (by omega) c_9
        refine gx_aload_n (i := 0) hC dX4_nextToLand_12 rfl rfl (by first | exact Or.inr ⟨_, rfl⟩ | exact Or.inl rfl | exact kv_isR | exact aref_isR) ?_
        refine gx_iload_n (i := 2) hC dX4_nextToLand_13 rfl rfl ?_
        refine gx_callV1 hC dX4_nextToLand_14 (c_X4_holderOf _ _ hS _) kY_X4_holderOf kV_X4_holderOf ml_X4_82 (by first | exact hS.at | exact hS.aa | exact hS.ah | exact hS.ac (by assumption) | exact hS.ac (by omega)) rfl (by decide) rfl rfl rfl (by first | exact Nat.le_of_ble_eq_true rfl | (simp [Value.category, isR_cat kv_isR, isR_cat aref_isR]; done)) (Nat.le_refl _) (Nat.le_refl _) ?_
        refine gx_astore_n (i := 3) (L' := [_, _, _, _]) hC dX4_nextToLand_17 rfl (Nat.le_of_ble_eq_true rfl) rfl (fun u h9 => by first | exact Or.inl rfl | (cases h9; done) | (right; cases h9; first | rfl | exact isR_cat aref_isR | exact isR_cat kv_isR)) (by first | exact Or.inr ⟨_, rfl⟩ | exact Or.inl rfl | exact kv_isR | exact aref_isR) ?_
        refine gx_aload_n (i := 3) hC dX4_nextToLand_18 rfl rfl (by first | exact Or.inr ⟨_, rfl⟩ | exact Or.inl rfl | exact kv_isR | exact aref_isR) ?_
        refine gx_ifnull_o (tgt := 53) hC dX4_nextToLand_19 (by decide) (fun c_19 => ?_) (fun j_19 c_19 => ?_)
        · try simp only [c_19, aref_none]
          refine gx_iinc (i := 2) (L' := [_, _, _, _]) hC dX4_nextToLand_53 rfl (ii_1 _) (Nat.le_of_ble_eq_true rfl) rfl (fun u h9 => by first | exact Or.inl rfl | (cases h9; done) | (right; cases h9; first | rfl | exact isR_cat aref_isR | exact isR_cat kv_isR)) ?_
          refine gx_goto (tgt := 4) hC dX4_nextToLand_56 (by decide) ?_
          have h9 := fun w => ih (i + 1) w (by omega) (by omega)
          rw [nx_none c_19] at h9
          exact h9 _
        · have hj_19 := sHold_lt c_19
          simp only [c_19, aref_some]
          refine gx_aload_n (i := 3) hC dX4_nextToLand_22 rfl rfl (by first | exact Or.inr ⟨_, rfl⟩ | exact Or.inl rfl | exact kv_isR | exact aref_isR) ?_
          refine gx_callV1 hC dX4_nextToLand_23 (d_X0_isOverFix hS hj_19) kY_X0_isOverFix kV_X0_isOverFix ml_X4_167 (by first | exact hS.at | exact hS.aa | exact hS.ah | exact hS.ac (by assumption) | exact hS.ac (by omega)) rfl (by decide) rfl rfl rfl (by first | exact Nat.le_of_ble_eq_true rfl | (simp [Value.category, isR_cat kv_isR, isR_cat aref_isR]; done)) (Nat.le_refl _) (Nat.le_refl _) ?_
          refine gx_ifb_eq (tgt := 53) hC dX4_nextToLand_26 (by decide) (fun c_26 => ?_) (fun c_26 => ?_)
          · refine gx_iinc (i := 2) (L' := [_, _, _, _]) hC dX4_nextToLand_53 rfl (ii_1 _) (Nat.le_of_ble_eq_true rfl) rfl (fun u h9 => by first | exact Or.inl rfl | (cases h9; done) | (right; cases h9; first | rfl | exact isR_cat aref_isR | exact isR_cat kv_isR)) ?_
            refine gx_goto (tgt := 4) hC dX4_nextToLand_56 (by decide) ?_
            have h9 := fun w => ih (i + 1) w (by omega) (by omega)
            rw [nx_some c_19] at h9
            unfold nxs at h9
            rw [if_neg (fun q => absurd q.1 (of_decide_eq_false c_26))] at h9
            exact h9 _
          · refine gx_aload_n (i := 3) hC dX4_nextToLand_29 rfl rfl (by first | exact Or.inr ⟨_, rfl⟩ | exact Or.inl rfl | exact kv_isR | exact aref_isR) ?_
            refine gx_callV1 hC dX4_nextToLand_30 (d_X0_isShort hS hj_19 (hW.kd hj_19)) kY_X0_isShort kV_X0_isShort ml_X4_170 (by first | exact hS.at | exact hS.aa | exact hS.ah | exact hS.ac (by assumption) | exact hS.ac (by omega)) rfl (by decide) rfl rfl rfl (by first | exact Nat.le_of_ble_eq_true rfl | (simp [Value.category, isR_cat kv_isR, isR_cat aref_isR]; done)) (Nat.le_refl _) (Nat.le_refl _) ?_
            refine gx_ifb_eq (tgt := 53) hC dX4_nextToLand_33 (by decide) (fun c_33 => ?_) (fun c_33 => ?_)
            · refine gx_iinc (i := 2) (L' := [_, _, _, _]) hC dX4_nextToLand_53 rfl (ii_1 _) (Nat.le_of_ble_eq_true rfl) rfl (fun u h9 => by first | exact Or.inl rfl | (cases h9; done) | (right; cases h9; first | rfl | exact isR_cat aref_isR | exact isR_cat kv_isR)) ?_
              refine gx_goto (tgt := 4) hC dX4_nextToLand_56 (by decide) ?_
              have h9 := fun w => ih (i + 1) w (by omega) (by omega)
              rw [nx_some c_19] at h9
              unfold nxs at h9
              rw [if_neg (fun q => absurd q.2.1 (of_decide_eq_false c_33))] at h9
              exact h9 _
            · refine gx_aload_n (i := 1) hC dX4_nextToLand_36 rfl rfl (by first | exact Or.inr ⟨_, rfl⟩ | exact Or.inl rfl | exact kv_isR | exact aref_isR) ?_
              refine gx_ifnull_o (tgt := 51) hC dX4_nextToLand_37 (by decide) (fun c_37 => ?_) (fun j_37 c_37 => ?_)
              · refine gx_aload_n (i := 3) hC dX4_nextToLand_51 rfl rfl (by first | exact Or.inr ⟨_, rfl⟩ | exact Or.inl rfl | exact kv_isR | exact aref_isR) ?_
                refine gx_astore_n (i := 1) (L' := [_, _, _, _]) hC dX4_nextToLand_52 rfl (Nat.le_of_ble_eq_true rfl) rfl (fun u h9 => by first | exact Or.inl rfl | (cases h9; done) | (right; cases h9; first | rfl | exact isR_cat aref_isR | exact isR_cat kv_isR)) (by first | exact Or.inr ⟨_, rfl⟩ | exact Or.inl rfl | exact kv_isR | exact aref_isR) ?_
                refine gx_iinc (i := 2) (L' := [_, _, _, _]) hC dX4_nextToLand_53 rfl (ii_1 _) (Nat.le_of_ble_eq_true rfl) rfl (fun u h9 => by first | exact Or.inl rfl | (cases h9; done) | (right; cases h9; first | rfl | exact isR_cat aref_isR | exact isR_cat kv_isR)) ?_
                refine gx_goto (tgt := 4) hC dX4_nextToLand_56 (by decide) ?_
                have h9 := fun w => ih (i + 1) w (by omega) (by omega)
                rw [nx_some c_19] at h9
                unfold nxs at h9
                rw [if_pos ⟨of_decide_eq_true c_26, of_decide_eq_true c_33, nsome c_37⟩] at h9
                exact h9 _
              · have hp_37 := nx_lt c_37
                simp only [c_37, aref_some]
                refine gx_aload_n (i := 3) hC dX4_nextToLand_40 rfl rfl (by first | exact Or.inr ⟨_, rfl⟩ | exact Or.inl rfl | exact kv_isR | exact aref_isR) ?_
                refine gx_getI hC dX4_nextToLand_41 fl_X4_111 (by first | exact hS.at | exact hS.aa | exact hS.ah | exact hS.ac (by assumption) | exact hS.ac (by omega)) (by decide) (pSj (by omega)) ?_
                refine gx_aload_n (i := 1) hC dX4_nextToLand_44 rfl rfl (by first | exact Or.inr ⟨_, rfl⟩ | exact Or.inl rfl | exact kv_isR | exact aref_isR) ?_
                refine gx_getI hC dX4_nextToLand_45 fl_X4_111 (by first | exact hS.at | exact hS.aa | exact hS.ah | exact hS.ac (by assumption) | exact hS.ac (by omega)) (by decide) (pSj (by omega)) ?_
                refine gx_icmp_ge (tgt := 53) hC dX4_nextToLand_48 (by decide) (fun c_48 => ?_) (fun c_48 => ?_)
                · refine gx_iinc (i := 2) (L' := [_, _, _, _]) hC dX4_nextToLand_53 rfl (ii_1 _) (Nat.le_of_ble_eq_true rfl) rfl (fun u h9 => by first | exact Or.inl rfl | (cases h9; done) | (right; cases h9; first | rfl | exact isR_cat aref_isR | exact isR_cat kv_isR)) ?_
                  refine gx_goto (tgt := 4) hC dX4_nextToLand_56 (by decide) ?_
                  have h9 := fun w => ih (i + 1) w (by omega) (by omega)
                  rw [nx_some c_19] at h9
                  unfold nxs at h9
                  rw [if_neg (fun q => absurd (q.2.2 _ c_37) (Int32.not_lt.mpr c_48)), c_37] at h9
                  exact h9 _
                · refine gx_aload_n (i := 3) hC dX4_nextToLand_51 rfl rfl (by first | exact Or.inr ⟨_, rfl⟩ | exact Or.inl rfl | exact kv_isR | exact aref_isR) ?_
                  refine gx_astore_n (i := 1) (L' := [_, _, _, _]) hC dX4_nextToLand_52 rfl (Nat.le_of_ble_eq_true rfl) rfl (fun u h9 => by first | exact Or.inl rfl | (cases h9; done) | (right; cases h9; first | rfl | exact isR_cat aref_isR | exact isR_cat kv_isR)) (by first | exact Or.inr ⟨_, rfl⟩ | exact Or.inl rfl | exact kv_isR | exact aref_isR) ?_
                  refine gx_iinc (i := 2) (L' := [_, _, _, _]) hC dX4_nextToLand_53 rfl (ii_1 _) (Nat.le_of_ble_eq_true rfl) rfl (fun u h9 => by first | exact Or.inl rfl | (cases h9; done) | (right; cases h9; first | rfl | exact isR_cat aref_isR | exact isR_cat kv_isR)) ?_
                  refine gx_goto (tgt := 4) hC dX4_nextToLand_56 (by decide) ?_
                  have h9 := fun w => ih (i + 1) w (by omega) (by omega)
                  rw [nx_some c_19] at h9
                  unfold nxs at h9
                  rw [if_pos ⟨of_decide_eq_true c_26, of_decide_eq_true c_33, nsom2 c_37 (Int32.not_le.mp c_48)⟩] at h9
                  exact h9 _
  exact loop_4 (lv + 1) 0 _ (by omega) (by omega)
def sDown (f : hMem) (j i : Nat) : hMem := up2 (up2 (up2 (sSetH (sSetH f (nI (i + 1)) (-6)) (nI i) (nI j)) (3 + j) 4 (nI i)) (3 + j) 6 0) 0 10 (f 0 10 + 1)
def gds (f : hMem) (j i : Nat) : hMem := if f (3 + j) 5 = 0 ∧ bFree f (nI i) = true ∧ (¬ f 0 7 = 0 ∨ ¬ f (3 + j) 6 = 0) then sDown f j i else f
def gd (f : hMem) : Nat → hMem
  | 0 => f
  | i + 1 => match sHold (gd f i) (nI (i + 1)) with
    | none => gd f i
    | some j => gds (gd f i) j i
theorem gd_none {f : hMem} {i : Nat} (h : sHold (gd f i) (nI (i + 1)) = none) : gd f (i + 1) = gd f i := by rw [gd, h]
theorem gd_some {f : hMem} {i j : Nat} (h : sHold (gd f i) (nI (i + 1)) = some j) : gd f (i + 1) = gds (gd f i) j i := by rw [gd, h]
theorem SWdown {f : hMem} {lv c j i : Nat} (h : SW f lv c) : SW (sDown f j i) lv c := (((SWset (SWset h)).up (by omega) (by omega)).up (by omega) (by omega)).up (by omega) (by omega)
theorem SWgd {f : hMem} {lv c : Nat} (h : SW f lv c) (i : Nat) : SW (gd f i) lv c := by
  induction i with
  | zero => exact h
  | succ i ih =>
    cases hh : sHold (gd f i) (nI (i + 1)) with
    | none => rw [gd_none hh]; exact ih
    | some j =>
      rw [gd_some hh]
      unfold gds
      split
      · exact SWdown ih
      · exact ih
theorem nI_p1 (i : Nat) : nI (i + 1) - 1 = nI i := nI_pred i
set_option maxHeartbeats 4000000 in
set_option maxRecDepth 20000 in
theorem c_X4_goDownLadder (l : Launch) (z : hZt) {n : Nat} {M : hMem} {R : hRef} {o : Nat} (hS : hSt n R o) {f : hMem} {lv c : Nat} (hW : SW f lv c) : hCt l z m_X4_goDownLadder [.ref (z.1 + o)] n (putS M o f) R n none (putS M o (gd f (lv - 1))) R := by
  refine hs_start [some (.ref (z.1 + o)), none, none] (by decide +kernel) rfl (by intro u hu; simp at hu; subst hu <;> first | rfl | exact isR_cat kv_isR | exact isR_cat aref_isR) (Nat.le_of_ble_eq_true rfl) (Nat.le_refl _) (fun X hlX hN hC hQ => ?_)
  dsimp only at hC hQ
  have hl16 := hW.l16
  refine gx_iconst (v := nI 1) hC dX4_goDownLadder_0 ic_1n ?_
  refine gx_istore_n (i := 1) (L' := [_, _, _]) hC dX4_goDownLadder_1 rfl (Nat.le_of_ble_eq_true rfl) rfl (fun u h9 => by first | exact Or.inl rfl | (cases h9; done) | (right; cases h9; first | rfl | exact isR_cat aref_isR | exact isR_cat kv_isR)) ?_
  have loop_2 : ∀ (k : Nat) (i : Nat) (w : Option Value), lv - i < k → (i = 0 ∨ i + 1 ≤ lv) → hG z n X n (putS M o (gd f i)) R 2 [some (.ref (z.1 + o)), some (.int (nI (i + 1))), w] [] := by
    intro k
    induction k with
    | zero => intros; omega
    | succ k ih =>
      intro i w hk1 hi
      refine gx_iload_n (i := 1) hC dX4_goDownLadder_2 rfl rfl ?_
      refine gx_aload_n (i := 0) hC dX4_goDownLadder_3 rfl rfl (by first | exact Or.inr ⟨_, rfl⟩ | exact Or.inl rfl | exact kv_isR | exact aref_isR) ?_
      refine gx_getI hC dX4_goDownLadder_4 fl_X4_21 (by first | exact hS.at | exact hS.aa | exact hS.ah | exact hS.ac (by assumption) | exact hS.ac (by omega)) (by decide) (pS0.trans (SWgd hW i).lv) ?_
      refine gx_icmp_ge (tgt := 97) hC dX4_goDownLadder_7 (by decide) (fun c_7 => ?_) (fun c_7 => ?_)
      · have d_7 := cle (by omega) (by omega) c_7
        exact gx_vret hC hQ dX4_goDownLadder_97 (by rw [show lv - 1 = i by omega]) rfl
      · have d_7 := cnle (by omega) (by omega) c_7
        refine gx_aload_n (i := 0) hC dX4_goDownLadder_10 rfl rfl (by first | exact Or.inr ⟨_, rfl⟩ | exact Or.inl rfl | exact kv_isR | exact aref_isR) ?_
        refine gx_iload_n (i := 1) hC dX4_goDownLadder_11 rfl rfl ?_
        refine gx_callV1 hC dX4_goDownLadder_12 (c_X4_holderOf _ _ hS _) kY_X4_holderOf kV_X4_holderOf ml_X4_82 (by first | exact hS.at | exact hS.aa | exact hS.ah | exact hS.ac (by assumption) | exact hS.ac (by omega)) rfl (by decide) rfl rfl rfl (by first | exact Nat.le_of_ble_eq_true rfl | (simp [Value.category, isR_cat kv_isR, isR_cat aref_isR]; done)) (Nat.le_refl _) (Nat.le_refl _) ?_
        refine gx_astore_n (i := 2) (L' := [_, _, _]) hC dX4_goDownLadder_15 rfl (Nat.le_of_ble_eq_true rfl) rfl (fun u h9 => by first | exact Or.inl rfl | (cases h9; done) | (right; cases h9; first | rfl | exact isR_cat aref_isR | exact isR_cat kv_isR)) (by first | exact Or.inr ⟨_, rfl⟩ | exact Or.inl rfl | exact kv_isR | exact aref_isR) ?_
        refine gx_aload_n (i := 2) hC dX4_goDownLadder_16 rfl rfl (by first | exact Or.inr ⟨_, rfl⟩ | exact Or.inl rfl | exact kv_isR | exact aref_isR) ?_
        refine gx_ifnull_o (tgt := 91) hC dX4_goDownLadder_17 (by decide) (fun c_17 => ?_) (fun j_17 c_17 => ?_)
        · try simp only [c_17, aref_none]
          refine gx_iinc (i := 1) (L' := [_, _, _]) hC dX4_goDownLadder_91 rfl (ii_1 _) (Nat.le_of_ble_eq_true rfl) rfl (fun u h9 => by first | exact Or.inl rfl | (cases h9; done) | (right; cases h9; first | rfl | exact isR_cat aref_isR | exact isR_cat kv_isR)) ?_
          refine gx_goto (tgt := 2) hC dX4_goDownLadder_94 (by decide) ?_
          have h9 := fun w => ih (i + 1) w (by omega) (by omega)
          rw [gd_none c_17] at h9
          exact h9 _
        · have hj_17 := sHold_lt c_17
          simp only [c_17, aref_some]
          refine gx_aload_n (i := 2) hC dX4_goDownLadder_20 rfl rfl (by first | exact Or.inr ⟨_, rfl⟩ | exact Or.inl rfl | exact kv_isR | exact aref_isR) ?_
          refine gx_callV1 hC dX4_goDownLadder_21 (d_X0_isOverFix hS hj_17) kY_X0_isOverFix kV_X0_isOverFix ml_X4_167 (by first | exact hS.at | exact hS.aa | exact hS.ah | exact hS.ac (by assumption) | exact hS.ac (by omega)) rfl (by decide) rfl rfl rfl (by first | exact Nat.le_of_ble_eq_true rfl | (simp [Value.category, isR_cat kv_isR, isR_cat aref_isR]; done)) (Nat.le_refl _) (Nat.le_refl _) ?_
          refine gx_ifb_eq (tgt := 91) hC dX4_goDownLadder_24 (by decide) (fun c_24 => ?_) (fun c_24 => ?_)
          · refine gx_iinc (i := 1) (L' := [_, _, _]) hC dX4_goDownLadder_91 rfl (ii_1 _) (Nat.le_of_ble_eq_true rfl) rfl (fun u h9 => by first | exact Or.inl rfl | (cases h9; done) | (right; cases h9; first | rfl | exact isR_cat aref_isR | exact isR_cat kv_isR)) ?_
            refine gx_goto (tgt := 2) hC dX4_goDownLadder_94 (by decide) ?_
            have h9 := fun w => ih (i + 1) w (by omega) (by omega)
            rw [gd_some c_17] at h9
            unfold gds at h9
            rw [if_neg (fun q => absurd q.1 (of_decide_eq_false c_24))] at h9
            exact h9 _
          · refine gx_aload_n (i := 0) hC dX4_goDownLadder_27 rfl rfl (by first | exact Or.inr ⟨_, rfl⟩ | exact Or.inl rfl | exact kv_isR | exact aref_isR) ?_
            refine gx_iload_n (i := 1) hC dX4_goDownLadder_28 rfl rfl ?_
            refine gx_iconst (v := 1) hC dX4_goDownLadder_29 ic_1 ?_
            refine gx_isub hC dX4_goDownLadder_30 ?_
            rw [nI_p1]
            refine gx_callV1 hC dX4_goDownLadder_31 (c_X4_isFree _ _ hS _) kY_X4_isFree kV_X4_isFree ml_X4_95 (by first | exact hS.at | exact hS.aa | exact hS.ah | exact hS.ac (by assumption) | exact hS.ac (by omega)) rfl (by decide) rfl rfl rfl (by first | exact Nat.le_of_ble_eq_true rfl | (simp [Value.category, isR_cat kv_isR, isR_cat aref_isR]; done)) (Nat.le_refl _) (Nat.le_refl _) ?_
            refine gx_ifb_eq (tgt := 91) hC dX4_goDownLadder_34 (by decide) (fun c_34 => ?_) (fun c_34 => ?_)
            · refine gx_iinc (i := 1) (L' := [_, _, _]) hC dX4_goDownLadder_91 rfl (ii_1 _) (Nat.le_of_ble_eq_true rfl) rfl (fun u h9 => by first | exact Or.inl rfl | (cases h9; done) | (right; cases h9; first | rfl | exact isR_cat aref_isR | exact isR_cat kv_isR)) ?_
              refine gx_goto (tgt := 2) hC dX4_goDownLadder_94 (by decide) ?_
              have h9 := fun w => ih (i + 1) w (by omega) (by omega)
              rw [gd_some c_17] at h9
              unfold gds at h9
              rw [if_neg (fun q => absurd (c_34.symm.trans q.2.1) (by decide))] at h9
              exact h9 _
            · refine gx_aload_n (i := 0) hC dX4_goDownLadder_37 rfl rfl (by first | exact Or.inr ⟨_, rfl⟩ | exact Or.inl rfl | exact kv_isR | exact aref_isR) ?_
              refine gx_getZ hC dX4_goDownLadder_38 fl_X4_35 (by first | exact hS.at | exact hS.aa | exact hS.ah | exact hS.ac (by assumption) | exact hS.ac (by omega)) rfl (pS0) (fun hz_38 => ?_)
              refine gx_if_ne (tgt := 51) hC dX4_goDownLadder_41 (by decide) (fun c_41 => ?_) (fun c_41 => ?_)
              · refine gx_aload_n (i := 0) hC dX4_goDownLadder_51 rfl rfl (by first | exact Or.inr ⟨_, rfl⟩ | exact Or.inl rfl | exact kv_isR | exact aref_isR) ?_
                refine gx_iload_n (i := 1) hC dX4_goDownLadder_52 rfl rfl ?_
                refine gx_bipush (v := -6) hC dX4_goDownLadder_53 bp_m6 ?_
                refine gx_callV0 hC dX4_goDownLadder_55 (c_X4_setHolder _ _ hS _ _) kY_X4_setHolder kV_X4_setHolder ml_X4_123 (by first | exact hS.at | exact hS.aa | exact hS.ah | exact hS.ac (by assumption) | exact hS.ac (by omega)) rfl (by decide) rfl rfl rfl (by first | exact Nat.le_of_ble_eq_true rfl | (simp [Value.category, isR_cat kv_isR, isR_cat aref_isR]; done)) (Nat.le_refl _) (Nat.le_refl _) ?_
                refine gx_aload_n (i := 0) hC dX4_goDownLadder_58 rfl rfl (by first | exact Or.inr ⟨_, rfl⟩ | exact Or.inl rfl | exact kv_isR | exact aref_isR) ?_
                refine gx_iload_n (i := 1) hC dX4_goDownLadder_59 rfl rfl ?_
                refine gx_iconst (v := 1) hC dX4_goDownLadder_60 ic_1 ?_
                refine gx_isub hC dX4_goDownLadder_61 ?_
                rw [nI_p1]
                refine gx_aload_n (i := 2) hC dX4_goDownLadder_62 rfl rfl (by first | exact Or.inr ⟨_, rfl⟩ | exact Or.inl rfl | exact kv_isR | exact aref_isR) ?_
                refine gx_getI hC dX4_goDownLadder_63 fl_X4_120 (by first | exact hS.at | exact hS.aa | exact hS.ah | exact hS.ac (by assumption) | exact hS.ac (by omega)) (by decide) ((pSj (by omega)).trans (show _ = nI j_17 from ((sSetH_off (show 3 + j_17 ≠ 2 by omega)).trans ((SWgd hW i).nu hj_17)))) ?_
                refine gx_callV0 hC dX4_goDownLadder_66 (c_X4_setHolder _ _ hS _ _) kY_X4_setHolder kV_X4_setHolder ml_X4_123 (by first | exact hS.at | exact hS.aa | exact hS.ah | exact hS.ac (by assumption) | exact hS.ac (by omega)) rfl (by decide) rfl rfl rfl (by first | exact Nat.le_of_ble_eq_true rfl | (simp [Value.category, isR_cat kv_isR, isR_cat aref_isR]; done)) (Nat.le_refl _) (Nat.le_refl _) ?_
                refine gx_aload_n (i := 2) hC dX4_goDownLadder_69 rfl rfl (by first | exact Or.inr ⟨_, rfl⟩ | exact Or.inl rfl | exact kv_isR | exact aref_isR) ?_
                refine gx_iload_n (i := 1) hC dX4_goDownLadder_70 rfl rfl ?_
                refine gx_iconst (v := 1) hC dX4_goDownLadder_71 ic_1 ?_
                refine gx_isub hC dX4_goDownLadder_72 ?_
                rw [nI_p1]
                refine gx_putI hC dX4_goDownLadder_73 fl_X4_114 (by first | exact hS.at | exact hS.aa | exact hS.ah | exact hS.ac (by assumption) | exact hS.ac (by omega)) fn_0_4 rfl (up_S (by omega)) ?_
                refine gx_aload_n (i := 2) hC dX4_goDownLadder_76 rfl rfl (by first | exact Or.inr ⟨_, rfl⟩ | exact Or.inl rfl | exact kv_isR | exact aref_isR) ?_
                refine gx_iconst (v := 0) hC dX4_goDownLadder_77 ic_0 ?_
                refine gx_putZ hC dX4_goDownLadder_78 fl_X4_117 (by first | exact hS.at | exact hS.aa | exact hS.ah | exact hS.ac (by assumption) | exact hS.ac (by omega)) fn_0_6 rfl (by first | exact Or.inl rfl | exact Or.inr rfl | exact b2_bit _ | assumption) (up_S (by omega)) ?_
                refine gx_aload_n (i := 0) hC dX4_goDownLadder_81 rfl rfl (by first | exact Or.inr ⟨_, rfl⟩ | exact Or.inl rfl | exact kv_isR | exact aref_isR) ?_
                refine gx_dup hC dX4_goDownLadder_82 (by first | rfl | exact isR_cat kv_isR | exact isR_cat aref_isR) ?_
                refine gx_getI hC dX4_goDownLadder_83 fl_X4_56 (by first | exact hS.at | exact hS.aa | exact hS.ah | exact hS.ac (by assumption) | exact hS.ac (by omega)) (by decide) (pS0.trans ((up2_off (by omega)).trans ((up2_off (by omega)).trans ((sSetH_off (by decide)).trans (sSetH_off (by decide)))))) ?_
                refine gx_iconst (v := 1) hC dX4_goDownLadder_86 ic_1 ?_
                refine gx_iadd hC dX4_goDownLadder_87 ?_
                refine gx_putI hC dX4_goDownLadder_88 fl_X4_56 (by first | exact hS.at | exact hS.aa | exact hS.ah | exact hS.ac (by assumption) | exact hS.ac (by omega)) fn_3_10 rfl (up_S0) ?_
                refine gx_iinc (i := 1) (L' := [_, _, _]) hC dX4_goDownLadder_91 rfl (ii_1 _) (Nat.le_of_ble_eq_true rfl) rfl (fun u h9 => by first | exact Or.inl rfl | (cases h9; done) | (right; cases h9; first | rfl | exact isR_cat aref_isR | exact isR_cat kv_isR)) ?_
                refine gx_goto (tgt := 2) hC dX4_goDownLadder_94 (by decide) ?_
                have h9 := fun w => ih (i + 1) w (by omega) (by omega)
                rw [gd_some c_17] at h9
                unfold gds at h9
                rw [if_pos ⟨of_decide_eq_true c_24, c_34, Or.inl c_41⟩] at h9
                exact h9 _
              · refine gx_aload_n (i := 2) hC dX4_goDownLadder_44 rfl rfl (by first | exact Or.inr ⟨_, rfl⟩ | exact Or.inl rfl | exact kv_isR | exact aref_isR) ?_
                refine gx_getZ hC dX4_goDownLadder_45 fl_X4_117 (by first | exact hS.at | exact hS.aa | exact hS.ah | exact hS.ac (by assumption) | exact hS.ac (by omega)) rfl (pSj (by omega)) (fun hz_45 => ?_)
                refine gx_if_eq (tgt := 91) hC dX4_goDownLadder_48 (by decide) (fun c_48 => ?_) (fun c_48 => ?_)
                · refine gx_iinc (i := 1) (L' := [_, _, _]) hC dX4_goDownLadder_91 rfl (ii_1 _) (Nat.le_of_ble_eq_true rfl) rfl (fun u h9 => by first | exact Or.inl rfl | (cases h9; done) | (right; cases h9; first | rfl | exact isR_cat aref_isR | exact isR_cat kv_isR)) ?_
                  refine gx_goto (tgt := 2) hC dX4_goDownLadder_94 (by decide) ?_
                  have h9 := fun w => ih (i + 1) w (by omega) (by omega)
                  rw [gd_some c_17] at h9
                  unfold gds at h9
                  rw [if_neg (fun q => q.2.2.elim (fun r => r c_41) (fun r => r c_48))] at h9
                  exact h9 _
                · refine gx_aload_n (i := 0) hC dX4_goDownLadder_51 rfl rfl (by first | exact Or.inr ⟨_, rfl⟩ | exact Or.inl rfl | exact kv_isR | exact aref_isR) ?_
                  refine gx_iload_n (i := 1) hC dX4_goDownLadder_52 rfl rfl ?_
                  refine gx_bipush (v := -6) hC dX4_goDownLadder_53 bp_m6 ?_
                  refine gx_callV0 hC dX4_goDownLadder_55 (c_X4_setHolder _ _ hS _ _) kY_X4_setHolder kV_X4_setHolder ml_X4_123 (by first | exact hS.at | exact hS.aa | exact hS.ah | exact hS.ac (by assumption) | exact hS.ac (by omega)) rfl (by decide) rfl rfl rfl (by first | exact Nat.le_of_ble_eq_true rfl | (simp [Value.category, isR_cat kv_isR, isR_cat aref_isR]; done)) (Nat.le_refl _) (Nat.le_refl _) ?_
                  refine gx_aload_n (i := 0) hC dX4_goDownLadder_58 rfl rfl (by first | exact Or.inr ⟨_, rfl⟩ | exact Or.inl rfl | exact kv_isR | exact aref_isR) ?_
                  refine gx_iload_n (i := 1) hC dX4_goDownLadder_59 rfl rfl ?_
                  refine gx_iconst (v := 1) hC dX4_goDownLadder_60 ic_1 ?_
                  refine gx_isub hC dX4_goDownLadder_61 ?_
                  rw [nI_p1]
                  refine gx_aload_n (i := 2) hC dX4_goDownLadder_62 rfl rfl (by first | exact Or.inr ⟨_, rfl⟩ | exact Or.inl rfl | exact kv_isR | exact aref_isR) ?_
                  refine gx_getI hC dX4_goDownLadder_63 fl_X4_120 (by first | exact hS.at | exact hS.aa | exact hS.ah | exact hS.ac (by assumption) | exact hS.ac (by omega)) (by decide) ((pSj (by omega)).trans (show _ = nI j_17 from ((sSetH_off (show 3 + j_17 ≠ 2 by omega)).trans ((SWgd hW i).nu hj_17)))) ?_
                  refine gx_callV0 hC dX4_goDownLadder_66 (c_X4_setHolder _ _ hS _ _) kY_X4_setHolder kV_X4_setHolder ml_X4_123 (by first | exact hS.at | exact hS.aa | exact hS.ah | exact hS.ac (by assumption) | exact hS.ac (by omega)) rfl (by decide) rfl rfl rfl (by first | exact Nat.le_of_ble_eq_true rfl | (simp [Value.category, isR_cat kv_isR, isR_cat aref_isR]; done)) (Nat.le_refl _) (Nat.le_refl _) ?_
                  refine gx_aload_n (i := 2) hC dX4_goDownLadder_69 rfl rfl (by first | exact Or.inr ⟨_, rfl⟩ | exact Or.inl rfl | exact kv_isR | exact aref_isR) ?_
                  refine gx_iload_n (i := 1) hC dX4_goDownLadder_70 rfl rfl ?_
                  refine gx_iconst (v := 1) hC dX4_goDownLadder_71 ic_1 ?_
                  refine gx_isub hC dX4_goDownLadder_72 ?_
                  rw [nI_p1]
                  refine gx_putI hC dX4_goDownLadder_73 fl_X4_114 (by first | exact hS.at | exact hS.aa | exact hS.ah | exact hS.ac (by assumption) | exact hS.ac (by omega)) fn_0_4 rfl (up_S (by omega)) ?_
                  refine gx_aload_n (i := 2) hC dX4_goDownLadder_76 rfl rfl (by first | exact Or.inr ⟨_, rfl⟩ | exact Or.inl rfl | exact kv_isR | exact aref_isR) ?_
                  refine gx_iconst (v := 0) hC dX4_goDownLadder_77 ic_0 ?_
                  refine gx_putZ hC dX4_goDownLadder_78 fl_X4_117 (by first | exact hS.at | exact hS.aa | exact hS.ah | exact hS.ac (by assumption) | exact hS.ac (by omega)) fn_0_6 rfl (by first | exact Or.inl rfl | exact Or.inr rfl | exact b2_bit _ | assumption) (up_S (by omega)) ?_
                  refine gx_aload_n (i := 0) hC dX4_goDownLadder_81 rfl rfl (by first | exact Or.inr ⟨_, rfl⟩ | exact Or.inl rfl | exact kv_isR | exact aref_isR) ?_
                  refine gx_dup hC dX4_goDownLadder_82 (by first | rfl | exact isR_cat kv_isR | exact isR_cat aref_isR) ?_
                  refine gx_getI hC dX4_goDownLadder_83 fl_X4_56 (by first | exact hS.at | exact hS.aa | exact hS.ah | exact hS.ac (by assumption) | exact hS.ac (by omega)) (by decide) (pS0.trans ((up2_off (by omega)).trans ((up2_off (by omega)).trans ((sSetH_off (by decide)).trans (sSetH_off (by decide)))))) ?_
                  refine gx_iconst (v := 1) hC dX4_goDownLadder_86 ic_1 ?_
                  refine gx_iadd hC dX4_goDownLadder_87 ?_
                  refine gx_putI hC dX4_goDownLadder_88 fl_X4_56 (by first | exact hS.at | exact hS.aa | exact hS.ah | exact hS.ac (by assumption) | exact hS.ac (by omega)) fn_3_10 rfl (up_S0) ?_
                  refine gx_iinc (i := 1) (L' := [_, _, _]) hC dX4_goDownLadder_91 rfl (ii_1 _) (Nat.le_of_ble_eq_true rfl) rfl (fun u h9 => by first | exact Or.inl rfl | (cases h9; done) | (right; cases h9; first | rfl | exact isR_cat aref_isR | exact isR_cat kv_isR)) ?_
                  refine gx_goto (tgt := 2) hC dX4_goDownLadder_94 (by decide) ?_
                  have h9 := fun w => ih (i + 1) w (by omega) (by omega)
                  rw [gd_some c_17] at h9
                  unfold gds at h9
                  rw [if_pos ⟨of_decide_eq_true c_24, c_34, Or.inr c_48⟩] at h9
                  exact h9 _
  exact loop_2 (lv + 1) 0 _ (by omega) (by omega)
def sWait (f : hMem) : hMem := if 0 < f 0 8 then up2 f 0 8 (f 0 8 - 1) else f
def sLd (f : hMem) (j : Nat) : hMem := up2 (up2 (sLeave f j 1) 0 13 (sLeave f j 1 0 13 + sLeave f j 1 (3 + j) 2)) 0 8 (kWake (sLeave f j 1 (3 + j) 1))
def sLnd (f : hMem) (lv : Nat) : Int32 × hMem := if f 0 6 = 0 ∨ 0 < f 0 8 then (-6, f) else match sNext f lv with
  | none => (-6, f)
  | some j => (nI j, sLd f j)
def sLand (f : hMem) (lv : Nat) : Int32 × hMem := sLnd (sWait f) lv
theorem SWwait {f : hMem} {lv c : Nat} (h : SW f lv c) : SW (sWait f) lv c := by
  unfold sWait
  split
  · exact h.up (by omega) (by omega)
  · exact h
theorem sNext_lt {f : hMem} {lv j : Nat} (h : sNext f lv = some j) : j < 20 := by
  unfold sNext at h
  split at h
  · next hh => cases h; exact nx_lt hh
  · split at h
    · cases h
    · next hh =>
      split at h
      · cases h; exact sHold_lt hh
      · cases h
theorem SWld {f : hMem} {lv c j : Nat} (h : SW f lv c) : SW (sLd f j) lv c := ((SWleave h).up (by omega) (by omega)).up (by omega) (by omega)
theorem SWland {f : hMem} {lv c : Nat} (h : SW f lv c) : SW (sLand f lv).2 lv c := by
  unfold sLand sLnd
  split
  · exact SWwait h
  · split
    · exact SWwait h
    · exact SWld (SWwait h)
set_option maxHeartbeats 4000000 in
set_option maxRecDepth 20000 in
theorem c_X4_landOne (l : Launch) (z : hZt) {n : Nat} {M : hMem} {R : hRef} {o : Nat} (hS : hSt n R o) {f : hMem} {lv c : Nat} (hW : SW f lv c) : hCt l z m_X4_landOne [.ref (z.1 + o)] n (putS M o f) R n (some (.int (sLand f lv).1)) (putS M o (sLand f lv).2) R := by
  refine hs_start [some (.ref (z.1 + o)), none] (by decide +kernel) rfl (by intro u hu; simp at hu; subst hu <;> first | rfl | exact isR_cat kv_isR | exact isR_cat aref_isR) (Nat.le_of_ble_eq_true rfl) (Nat.le_refl _) (fun X hlX hN hC hQ => ?_)
  dsimp only at hC hQ
  have hl16 := hW.l16
  have join : ∀ (g : hMem), sWait f = g → SW g lv c → hG z n X n (putS M o g) R 17 [some (.ref (z.1 + o)), none] [] := by
    intro g hg hWg
    refine gx_aload_n (i := 0) hC dX4_landOne_17 rfl rfl (by first | exact Or.inr ⟨_, rfl⟩ | exact Or.inl rfl | exact kv_isR | exact aref_isR) ?_
    refine gx_getZ hC dX4_landOne_18 fl_X4_31 (by first | exact hS.at | exact hS.aa | exact hS.ah | exact hS.ac (by assumption) | exact hS.ac (by omega)) rfl (pS0) (fun hz_18 => ?_)
    refine gx_if_eq (tgt := 31) hC dX4_landOne_21 (by decide) (fun c_21 => ?_) (fun c_21 => ?_)
    · refine gx_bipush (v := -6) hC dX4_landOne_31 bp_m6 ?_
      exact gx_iret hC hQ dX4_landOne_33 ((by unfold sLand sLnd; rw [hg]; rw [if_pos (Or.inl c_21)])) ((by unfold sLand sLnd; rw [hg]; rw [if_pos (Or.inl c_21)])) rfl
    · refine gx_aload_n (i := 0) hC dX4_landOne_24 rfl rfl (by first | exact Or.inr ⟨_, rfl⟩ | exact Or.inl rfl | exact kv_isR | exact aref_isR) ?_
      refine gx_getI hC dX4_landOne_25 fl_X4_50 (by first | exact hS.at | exact hS.aa | exact hS.ah | exact hS.ac (by assumption) | exact hS.ac (by omega)) (by decide) (pS0) ?_
      refine gx_if_le (tgt := 34) hC dX4_landOne_28 (by decide) (fun c_28 => ?_) (fun c_28 => ?_)
      · refine gx_aload_n (i := 0) hC dX4_landOne_34 rfl rfl (by first | exact Or.inr ⟨_, rfl⟩ | exact Or.inl rfl | exact kv_isR | exact aref_isR) ?_
        refine gx_callV1 hC dX4_landOne_35 (c_X4_nextToLand _ _ hS hWg) kY_X4_nextToLand kV_X4_nextToLand ml_X4_160 (by first | exact hS.at | exact hS.aa | exact hS.ah | exact hS.ac (by assumption) | exact hS.ac (by omega)) rfl (by decide) rfl rfl rfl (by first | exact Nat.le_of_ble_eq_true rfl | (simp [Value.category, isR_cat kv_isR, isR_cat aref_isR]; done)) (Nat.le_refl _) (Nat.le_refl _) ?_
        refine gx_astore_n (i := 1) (L' := [_, _]) hC dX4_landOne_38 rfl (Nat.le_of_ble_eq_true rfl) rfl (fun u h9 => by first | exact Or.inl rfl | (cases h9; done) | (right; cases h9; first | rfl | exact isR_cat aref_isR | exact isR_cat kv_isR)) (by first | exact Or.inr ⟨_, rfl⟩ | exact Or.inl rfl | exact kv_isR | exact aref_isR) ?_
        refine gx_aload_n (i := 1) hC dX4_landOne_39 rfl rfl (by first | exact Or.inr ⟨_, rfl⟩ | exact Or.inl rfl | exact kv_isR | exact aref_isR) ?_
        refine gx_ifnonnull_o (tgt := 46) hC dX4_landOne_40 (by decide) (fun j_40 c_40 => ?_) (fun c_40 => ?_)
        · have hj_40 := sNext_lt c_40
          simp only [c_40, aref_some]
          refine gx_aload_n (i := 0) hC dX4_landOne_46 rfl rfl (by first | exact Or.inr ⟨_, rfl⟩ | exact Or.inl rfl | exact kv_isR | exact aref_isR) ?_
          refine gx_aload_n (i := 1) hC dX4_landOne_47 rfl rfl (by first | exact Or.inr ⟨_, rfl⟩ | exact Or.inl rfl | exact kv_isR | exact aref_isR) ?_
          refine gx_iconst (v := 1) hC dX4_landOne_48 ic_1 ?_
          refine gx_callV0 hC dX4_landOne_49 (c_X4_leave _ _ hS hj_40 _) kY_X4_leave kV_X4_leave ml_X4_156 (by first | exact hS.at | exact hS.aa | exact hS.ah | exact hS.ac (by assumption) | exact hS.ac (by omega)) rfl (by decide) rfl rfl rfl (by first | exact Nat.le_of_ble_eq_true rfl | (simp [Value.category, isR_cat kv_isR, isR_cat aref_isR]; done)) (Nat.le_refl _) (Nat.le_refl _) ?_
          refine gx_aload_n (i := 0) hC dX4_landOne_52 rfl rfl (by first | exact Or.inr ⟨_, rfl⟩ | exact Or.inl rfl | exact kv_isR | exact aref_isR) ?_
          refine gx_dup hC dX4_landOne_53 (by first | rfl | exact isR_cat kv_isR | exact isR_cat aref_isR) ?_
          refine gx_getI hC dX4_landOne_54 fl_X4_65 (by first | exact hS.at | exact hS.aa | exact hS.ah | exact hS.ac (by assumption) | exact hS.ac (by omega)) (by decide) (pS0) ?_
          refine gx_aload_n (i := 1) hC dX4_landOne_57 rfl rfl (by first | exact Or.inr ⟨_, rfl⟩ | exact Or.inl rfl | exact kv_isR | exact aref_isR) ?_
          refine gx_getI hC dX4_landOne_58 fl_X4_111 (by first | exact hS.at | exact hS.aa | exact hS.ah | exact hS.ac (by assumption) | exact hS.ac (by omega)) (by decide) (pSj (by omega)) ?_
          refine gx_iadd hC dX4_landOne_61 ?_
          refine gx_putI hC dX4_landOne_62 fl_X4_65 (by first | exact hS.at | exact hS.aa | exact hS.ah | exact hS.ac (by assumption) | exact hS.ac (by omega)) fn_3_13 rfl (up_S0) ?_
          refine gx_aload_n (i := 0) hC dX4_landOne_65 rfl rfl (by first | exact Or.inr ⟨_, rfl⟩ | exact Or.inl rfl | exact kv_isR | exact aref_isR) ?_
          refine gx_aload_n (i := 1) hC dX4_landOne_66 rfl rfl (by first | exact Or.inr ⟨_, rfl⟩ | exact Or.inl rfl | exact kv_isR | exact aref_isR) ?_
          refine gx_getE hC dX4_landOne_67 fl_X4_107 (by first | exact hS.at | exact hS.aa | exact hS.ah | exact hS.ac (by assumption) | exact hS.ac (by omega)) rfl ((pSj (by omega)).trans (up2_off (by omega))) ?_
          refine gx_getK hC dX4_landOne_70 3 (by decide) fl_X4_164 (by exact (SWleave hWg).kd hj_40) kf_3 ?_
          refine gx_putI hC dX4_landOne_73 fl_X4_50 (by first | exact hS.at | exact hS.aa | exact hS.ah | exact hS.ac (by assumption) | exact hS.ac (by omega)) fn_3_8 rfl (up_S0) ?_
          refine gx_aload_n (i := 1) hC dX4_landOne_76 rfl rfl (by first | exact Or.inr ⟨_, rfl⟩ | exact Or.inl rfl | exact kv_isR | exact aref_isR) ?_
          refine gx_getI hC dX4_landOne_77 fl_X4_120 (by first | exact hS.at | exact hS.aa | exact hS.ah | exact hS.ac (by assumption) | exact hS.ac (by omega)) (by decide) ((pSj (by omega)).trans (show _ = nI j_40 from (up2_off (by omega)).trans ((up2_off (by omega)).trans ((SWleave hWg).nu hj_40)))) ?_
          exact gx_iret hC hQ dX4_landOne_80 ((by unfold sLand sLnd; rw [hg]; rw [if_neg (fun q => q.elim c_21 (Int32.not_lt.mpr c_28)), c_40])) ((by unfold sLand sLnd; rw [hg]; rw [if_neg (fun q => q.elim c_21 (Int32.not_lt.mpr c_28)), c_40]; rfl)) rfl
        · try simp only [c_40, aref_none]
          refine gx_bipush (v := -6) hC dX4_landOne_43 bp_m6 ?_
          exact gx_iret hC hQ dX4_landOne_45 ((by unfold sLand sLnd; rw [hg]; rw [if_neg (fun q => q.elim c_21 (Int32.not_lt.mpr c_28)), c_40])) ((by unfold sLand sLnd; rw [hg]; rw [if_neg (fun q => q.elim c_21 (Int32.not_lt.mpr c_28)), c_40])) rfl
      · refine gx_bipush (v := -6) hC dX4_landOne_31 bp_m6 ?_
        exact gx_iret hC hQ dX4_landOne_33 ((by unfold sLand sLnd; rw [hg]; rw [if_pos (Or.inr (Int32.not_le.mp c_28))])) ((by unfold sLand sLnd; rw [hg]; rw [if_pos (Or.inr (Int32.not_le.mp c_28))])) rfl
  refine gx_aload_n (i := 0) hC dX4_landOne_0 rfl rfl (by first | exact Or.inr ⟨_, rfl⟩ | exact Or.inl rfl | exact kv_isR | exact aref_isR) ?_
  refine gx_getI hC dX4_landOne_1 fl_X4_50 (by first | exact hS.at | exact hS.aa | exact hS.ah | exact hS.ac (by assumption) | exact hS.ac (by omega)) (by decide) (pS0) ?_
  refine gx_if_le (tgt := 17) hC dX4_landOne_4 (by decide) (fun c_4 => ?_) (fun c_4 => ?_)
  · exact join _ (by unfold sWait; rw [if_neg (Int32.not_lt.mpr c_4)]) (hW)
  · refine gx_aload_n (i := 0) hC dX4_landOne_7 rfl rfl (by first | exact Or.inr ⟨_, rfl⟩ | exact Or.inl rfl | exact kv_isR | exact aref_isR) ?_
    refine gx_dup hC dX4_landOne_8 (by first | rfl | exact isR_cat kv_isR | exact isR_cat aref_isR) ?_
    refine gx_getI hC dX4_landOne_9 fl_X4_50 (by first | exact hS.at | exact hS.aa | exact hS.ah | exact hS.ac (by assumption) | exact hS.ac (by omega)) (by decide) (pS0) ?_
    refine gx_iconst (v := 1) hC dX4_landOne_12 ic_1 ?_
    refine gx_isub hC dX4_landOne_13 ?_
    refine gx_putI hC dX4_landOne_14 fl_X4_50 (by first | exact hS.at | exact hS.aa | exact hS.ah | exact hS.ac (by assumption) | exact hS.ac (by omega)) fn_3_8 rfl (up_S0) ?_
    exact join _ (by unfold sWait; rw [if_pos (Int32.not_le.mp c_4)]) (hW.up (by omega) (by omega))
