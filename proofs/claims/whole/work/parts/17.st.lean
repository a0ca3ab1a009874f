/-! the state: what its methods answer and leave, over its block f -/
theorem gx_alenN {z : hZt} {n0 n nm nL d pc i len : Nat} {X : hXt} {cc : ByteArray} {own : String} {M : hMem} {R : hRef} {L : List (Option Value)} {st : List Value} (hC : hOk z n0 X cc own nL d nm) (hd : decode cc pc = .ok (.arraylength, 1)) {a : Nat} (hat : hAt n i (a, len)) (ha : 1 ≤ a ∧ a ≤ 5)
    (kk : hG z n0 X n M R (pc + 1) L (.int (nI len) :: st)) : hG z n0 X n M R pc L (.ref (z.1 + i) :: st) := gx_alen hC hd hat ha rfl kk
theorem clamp_eq (x : Int32) : x.toNatClampNeg = x.toInt.toNat := rfl
theorem clamp_lt {x : Int32} {n : Nat} (h0 : ¬ x < 0) (h1 : ¬ nI n ≤ x) (hn : n < 2 ^ 31) : x.toNatClampNeg < n := by
  rw [clamp_eq]
  rw [Int32.le_iff_toInt_le, nI_toInt hn] at h1
  rw [Int32.lt_iff_toInt_lt, Int32.toInt_zero] at h0
  omega
def bHas (f : hMem) (x : Int32) : Bool := decide (0 ≤ x ∧ x < f 0 3 ∧ x < nI 16)
def sNum (f : hMem) (x : Int32) : Option Nat := if 0 ≤ x ∧ x < f 0 2 ∧ x < nI 20 then some x.toNatClampNeg else none
theorem sNum_lt {f : hMem} {x : Int32} {j : Nat} (h : sNum f x = some j) : j < 20 := by
  unfold sNum at h
  split at h
  · next hc =>
    cases h
    exact clamp_lt (by rw [Int32.not_lt]; exact hc.1) (by rw [Int32.not_le]; exact hc.2.2) (by decide)
  · cases h

set_option maxHeartbeats 4000000 in
set_option maxRecDepth 20000 in
theorem c_X4_hasLevel (l : Launch) (z : hZt) {n : Nat} {M : hMem} {R : hRef} {o : Nat} (hS : hSt n R o) {f : hMem} (x : Int32) : hCt l z m_X4_hasLevel [.ref (z.1 + o), .int x] n (putS M o f) R n (some (.int (b2 (bHas f x)))) (putS M o f) R := by
  refine hs_start [some (.ref (z.1 + o)), some (.int x)] (by decide +kernel) rfl (by intro u hu; simp at hu; rcases hu with rfl | rfl <;> first | rfl | exact isR_cat kv_isR | exact isR_cat aref_isR) (Nat.le_of_ble_eq_true rfl) (Nat.le_refl _) (fun X hlX hN hC hQ => ?_)
  dsimp only at hC hQ
  refine gx_iload_n (i := 1) hC dX4_hasLevel_0 rfl rfl ?_
  refine gx_if_lt (tgt := 25) hC dX4_hasLevel_1 (by decide) (fun c_1 => ?_) (fun c_1 => ?_)
  · refine gx_iconst (v := 0) hC dX4_hasLevel_25 ic_0 ?_
    exact gx_zret hC hQ dX4_hasLevel_26 (by first | exact Or.inl rfl | exact Or.inr rfl | exact b2_bit _ | assumption) (by first | exact bv1 (by unfold bHas; exact decide_eq_true (by (clear hQ hC hN hlX; simp only [Int32.le_iff_toInt_le, Int32.lt_iff_toInt_lt, Int32.not_le, Int32.not_lt, ← Int32.toInt_inj, i32c_0, i32c_1, i32c_2, i32c_3, i32c_4, i32c_5, i32c_6, i32c_7, i32c_8, i32c_9, i32c_16, i32c_20, i32c_99, i32c_m1, i32c_m6, ni_16, ni_20, ni_80, ni_2, ni_5, ni_0, ne_eq] at *; omega))) | exact bv0 (by unfold bHas; exact decide_eq_false (by (clear hQ hC hN hlX; simp only [Int32.le_iff_toInt_le, Int32.lt_iff_toInt_lt, Int32.not_le, Int32.not_lt, ← Int32.toInt_inj, i32c_0, i32c_1, i32c_2, i32c_3, i32c_4, i32c_5, i32c_6, i32c_7, i32c_8, i32c_9, i32c_16, i32c_20, i32c_99, i32c_m1, i32c_m6, ni_16, ni_20, ni_80, ni_2, ni_5, ni_0, ne_eq] at *; omega)))) (rfl) rfl
  · refine gx_iload_n (i := 1) hC dX4_hasLevel_4 rfl rfl ?_
    refine gx_aload_n (i := 0) hC dX4_hasLevel_5 rfl rfl (by first | exact Or.inr ⟨_, rfl⟩ | exact Or.inl rfl | exact kv_isR | exact aref_isR) ?_
    refine gx_getI hC dX4_hasLevel_6 fl_X4_21 (by first | exact hS.at | exact hS.aa | exact hS.ah | exact hS.ac (by assumption) | exact hS.ac (by omega)) (by decide) (pS0) ?_
    refine gx_icmp_ge (tgt := 25) hC dX4_hasLevel_9 (by decide) (fun c_9 => ?_) (fun c_9 => ?_)
    · refine gx_iconst (v := 0) hC dX4_hasLevel_25 ic_0 ?_
      exact gx_zret hC hQ dX4_hasLevel_26 (by first | exact Or.inl rfl | exact Or.inr rfl | exact b2_bit _ | assumption) (by first | exact bv1 (by unfold bHas; exact decide_eq_true (by (clear hQ hC hN hlX; simp only [Int32.le_iff_toInt_le, Int32.lt_iff_toInt_lt, Int32.not_le, Int32.not_lt, ← Int32.toInt_inj, i32c_0, i32c_1, i32c_2, i32c_3, i32c_4, i32c_5, i32c_6, i32c_7, i32c_8, i32c_9, i32c_16, i32c_20, i32c_99, i32c_m1, i32c_m6, ni_16, ni_20, ni_80, ni_2, ni_5, ni_0, ne_eq] at *; omega))) | exact bv0 (by unfold bHas; exact decide_eq_false (by (clear hQ hC hN hlX; simp only [Int32.le_iff_toInt_le, Int32.lt_iff_toInt_lt, Int32.not_le, Int32.not_lt, ← Int32.toInt_inj, i32c_0, i32c_1, i32c_2, i32c_3, i32c_4, i32c_5, i32c_6, i32c_7, i32c_8, i32c_9, i32c_16, i32c_20, i32c_99, i32c_m1, i32c_m6, ni_16, ni_20, ni_80, ni_2, ni_5, ni_0, ne_eq] at *; omega)))) (rfl) rfl
    · refine gx_iload_n (i := 1) hC dX4_hasLevel_12 rfl rfl ?_
      refine gx_aload_n (i := 0) hC dX4_hasLevel_13 rfl rfl (by first | exact Or.inr ⟨_, rfl⟩ | exact Or.inl rfl | exact kv_isR | exact aref_isR) ?_
      refine gx_getR hC dX4_hasLevel_14 fl_X4_17 (by first | exact hS.at | exact hS.aa | exact hS.ah | exact hS.ac (by assumption) | exact hS.ac (by omega)) rfl (hS.rh) (by have := hS.1; omega) ?_
      refine gx_alenN hC dX4_hasLevel_17 (by first | exact hS.at | exact hS.aa | exact hS.ah | exact hS.ac (by assumption) | exact hS.ac (by omega)) (by decide) ?_
      refine gx_icmp_ge (tgt := 25) hC dX4_hasLevel_18 (by decide) (fun c_18 => ?_) (fun c_18 => ?_)
      · refine gx_iconst (v := 0) hC dX4_hasLevel_25 ic_0 ?_
        exact gx_zret hC hQ dX4_hasLevel_26 (by first | exact Or.inl rfl | exact Or.inr rfl | exact b2_bit _ | assumption) (by first | exact bv1 (by unfold bHas; exact decide_eq_true (by (clear hQ hC hN hlX; simp only [Int32.le_iff_toInt_le, Int32.lt_iff_toInt_lt, Int32.not_le, Int32.not_lt, ← Int32.toInt_inj, i32c_0, i32c_1, i32c_2, i32c_3, i32c_4, i32c_5, i32c_6, i32c_7, i32c_8, i32c_9, i32c_16, i32c_20, i32c_99, i32c_m1, i32c_m6, ni_16, ni_20, ni_80, ni_2, ni_5, ni_0, ne_eq] at *; omega))) | exact bv0 (by unfold bHas; exact decide_eq_false (by (clear hQ hC hN hlX; simp only [Int32.le_iff_toInt_le, Int32.lt_iff_toInt_lt, Int32.not_le, Int32.not_lt, ← Int32.toInt_inj, i32c_0, i32c_1, i32c_2, i32c_3, i32c_4, i32c_5, i32c_6, i32c_7, i32c_8, i32c_9, i32c_16, i32c_20, i32c_99, i32c_m1, i32c_m6, ni_16, ni_20, ni_80, ni_2, ni_5, ni_0, ne_eq] at *; omega)))) (rfl) rfl
      · refine gx_iconst (v := 1) hC dX4_hasLevel_21 ic_1 ?_
        refine gx_goto (tgt := 26) hC dX4_hasLevel_22 (by decide) ?_
        exact gx_zret hC hQ dX4_hasLevel_26 (by first | exact Or.inl rfl | exact Or.inr rfl | exact b2_bit _ | assumption) (by first | exact bv1 (by unfold bHas; exact decide_eq_true (by (clear hQ hC hN hlX; simp only [Int32.le_iff_toInt_le, Int32.lt_iff_toInt_lt, Int32.not_le, Int32.not_lt, ← Int32.toInt_inj, i32c_0, i32c_1, i32c_2, i32c_3, i32c_4, i32c_5, i32c_6, i32c_7, i32c_8, i32c_9, i32c_16, i32c_20, i32c_99, i32c_m1, i32c_m6, ni_16, ni_20, ni_80, ni_2, ni_5, ni_0, ne_eq] at *; omega))) | exact bv0 (by unfold bHas; exact decide_eq_false (by (clear hQ hC hN hlX; simp only [Int32.le_iff_toInt_le, Int32.lt_iff_toInt_lt, Int32.not_le, Int32.not_lt, ← Int32.toInt_inj, i32c_0, i32c_1, i32c_2, i32c_3, i32c_4, i32c_5, i32c_6, i32c_7, i32c_8, i32c_9, i32c_16, i32c_20, i32c_99, i32c_m1, i32c_m6, ni_16, ni_20, ni_80, ni_2, ni_5, ni_0, ne_eq] at *; omega)))) (rfl) rfl
set_option maxHeartbeats 4000000 in
set_option maxRecDepth 20000 in
theorem c_X4_numbered (l : Launch) (z : hZt) {n : Nat} {M : hMem} {R : hRef} {o : Nat} (hS : hSt n R o) {f : hMem} (x : Int32) : hCt l z m_X4_numbered [.ref (z.1 + o), .int x] n (putS M o f) R n (some (aref z o (sNum f x))) (putS M o f) R := by
  refine hs_start [some (.ref (z.1 + o)), some (.int x)] (by decide +kernel) rfl (by intro u hu; simp at hu; rcases hu with rfl | rfl <;> first | rfl | exact isR_cat kv_isR | exact isR_cat aref_isR) (Nat.le_of_ble_eq_true rfl) (Nat.le_refl _) (fun X hlX hN hC hQ => ?_)
  dsimp only at hC hQ
  refine gx_iload_n (i := 1) hC dX4_numbered_0 rfl rfl ?_
  refine gx_if_lt (tgt := 30) hC dX4_numbered_1 (by decide) (fun c_1 => ?_) (fun c_1 => ?_)
  · refine gx_aconst_null hC dX4_numbered_30 ?_
    exact gx_aret hC hQ dX4_numbered_31 (by first | exact Or.inr ⟨_, rfl⟩ | exact Or.inl rfl | exact kv_isR | exact aref_isR) (by unfold sNum; (repeat' split) <;> first | rfl | (exfalso; (clear hQ hC hN hlX; simp only [Int32.le_iff_toInt_le, Int32.lt_iff_toInt_lt, Int32.not_le, Int32.not_lt, ← Int32.toInt_inj, i32c_0, i32c_1, i32c_2, i32c_3, i32c_4, i32c_5, i32c_6, i32c_7, i32c_8, i32c_9, i32c_16, i32c_20, i32c_99, i32c_m1, i32c_m6, ni_16, ni_20, ni_80, ni_2, ni_5, ni_0, ne_eq] at *; omega))) (rfl) rfl
  · refine gx_iload_n (i := 1) hC dX4_numbered_4 rfl rfl ?_
    refine gx_aload_n (i := 0) hC dX4_numbered_5 rfl rfl (by first | exact Or.inr ⟨_, rfl⟩ | exact Or.inl rfl | exact kv_isR | exact aref_isR) ?_
    refine gx_getI hC dX4_numbered_6 fl_X4_47 (by first | exact hS.at | exact hS.aa | exact hS.ah | exact hS.ac (by assumption) | exact hS.ac (by omega)) (by decide) (pS0) ?_
    refine gx_icmp_ge (tgt := 30) hC dX4_numbered_9 (by decide) (fun c_9 => ?_) (fun c_9 => ?_)
    · refine gx_aconst_null hC dX4_numbered_30 ?_
      exact gx_aret hC hQ dX4_numbered_31 (by first | exact Or.inr ⟨_, rfl⟩ | exact Or.inl rfl | exact kv_isR | exact aref_isR) (by unfold sNum; (repeat' split) <;> first | rfl | (exfalso; (clear hQ hC hN hlX; simp only [Int32.le_iff_toInt_le, Int32.lt_iff_toInt_lt, Int32.not_le, Int32.not_lt, ← Int32.toInt_inj, i32c_0, i32c_1, i32c_2, i32c_3, i32c_4, i32c_5, i32c_6, i32c_7, i32c_8, i32c_9, i32c_16, i32c_20, i32c_99, i32c_m1, i32c_m6, ni_16, ni_20, ni_80, ni_2, ni_5, ni_0, ne_eq] at *; omega))) (rfl) rfl
    · refine gx_iload_n (i := 1) hC dX4_numbered_12 rfl rfl ?_
      refine gx_aload_n (i := 0) hC dX4_numbered_13 rfl rfl (by first | exact Or.inr ⟨_, rfl⟩ | exact Or.inl rfl | exact kv_isR | exact aref_isR) ?_
      refine gx_getR hC dX4_numbered_14 fl_X4_11 (by first | exact hS.at | exact hS.aa | exact hS.ah | exact hS.ac (by assumption) | exact hS.ac (by omega)) rfl (hS.ra) (by have := hS.1; omega) ?_
      refine gx_alenN hC dX4_numbered_17 (by first | exact hS.at | exact hS.aa | exact hS.ah | exact hS.ac (by assumption) | exact hS.ac (by omega)) (by decide) ?_
      refine gx_icmp_ge (tgt := 30) hC dX4_numbered_18 (by decide) (fun c_18 => ?_) (fun c_18 => ?_)
      · refine gx_aconst_null hC dX4_numbered_30 ?_
        exact gx_aret hC hQ dX4_numbered_31 (by first | exact Or.inr ⟨_, rfl⟩ | exact Or.inl rfl | exact kv_isR | exact aref_isR) (by unfold sNum; (repeat' split) <;> first | rfl | (exfalso; (clear hQ hC hN hlX; simp only [Int32.le_iff_toInt_le, Int32.lt_iff_toInt_lt, Int32.not_le, Int32.not_lt, ← Int32.toInt_inj, i32c_0, i32c_1, i32c_2, i32c_3, i32c_4, i32c_5, i32c_6, i32c_7, i32c_8, i32c_9, i32c_16, i32c_20, i32c_99, i32c_m1, i32c_m6, ni_16, ni_20, ni_80, ni_2, ni_5, ni_0, ne_eq] at *; omega))) (rfl) rfl
      · refine gx_aload_n (i := 0) hC dX4_numbered_21 rfl rfl (by first | exact Or.inr ⟨_, rfl⟩ | exact Or.inl rfl | exact kv_isR | exact aref_isR) ?_
        refine gx_getR hC dX4_numbered_22 fl_X4_11 (by first | exact hS.at | exact hS.aa | exact hS.ah | exact hS.ac (by assumption) | exact hS.ac (by omega)) rfl (hS.ra) (by have := hS.1; omega) ?_
        refine gx_iload_n (i := 1) hC dX4_numbered_25 rfl rfl ?_
        refine gx_aald hC dX4_numbered_26 (by first | exact hS.at | exact hS.aa | exact hS.ah | exact hS.ac (by assumption) | exact hS.ac (by omega)) (by first | exact Or.inl rfl | exact Or.inr rfl) (by (clear hQ hC hN hlX; simp only [vp_in_iff, Int32.le_iff_toInt_le, Int32.lt_iff_toInt_lt, Int32.not_le, Int32.not_lt, ← Int32.toInt_inj, i32c_0, i32c_1, i32c_2, i32c_3, i32c_4, i32c_5, i32c_6, i32c_7, i32c_8, i32c_9, i32c_16, i32c_20, i32c_99, i32c_m1, i32c_m6, ni_16, ni_20, ni_80, ni_2, ni_5, ni_0, ne_eq] at *; omega)) (hS.rc (clamp_lt (by assumption) (by assumption) (by decide))) (by have := hS.1; omega) ?_
        refine gx_goto (tgt := 31) hC dX4_numbered_27 (by decide) ?_
        exact gx_aret hC hQ dX4_numbered_31 (by first | exact Or.inr ⟨_, rfl⟩ | exact Or.inl rfl | exact kv_isR | exact aref_isR) (by unfold sNum; (repeat' split) <;> first | rfl | (exfalso; (clear hQ hC hN hlX; simp only [Int32.le_iff_toInt_le, Int32.lt_iff_toInt_lt, Int32.not_le, Int32.not_lt, ← Int32.toInt_inj, i32c_0, i32c_1, i32c_2, i32c_3, i32c_4, i32c_5, i32c_6, i32c_7, i32c_8, i32c_9, i32c_16, i32c_20, i32c_99, i32c_m1, i32c_m6, ni_16, ni_20, ni_80, ni_2, ni_5, ni_0, ne_eq] at *; omega))) (rfl) rfl
def sHold (f : hMem) (x : Int32) : Option Nat := if bHas f x = true then sNum f (f 2 x.toNatClampNeg) else none
theorem bHas_in {f : hMem} {x : Int32} (h : bHas f x = true) : vp_in x 16 := by
  have h := of_decide_eq_true h
  rw [vp_in_iff]
  simp only [Int32.le_iff_toInt_le, Int32.lt_iff_toInt_lt, ni_16, Int32.toInt_zero] at h
  omega
theorem sHold_lt {f : hMem} {x : Int32} {j : Nat} (h : sHold f x = some j) : j < 20 := by
  unfold sHold at h
  split at h
  · exact sNum_lt h
  · cases h
set_option maxHeartbeats 4000000 in
set_option maxRecDepth 20000 in
theorem c_X4_holderOf (l : Launch) (z : hZt) {n : Nat} {M : hMem} {R : hRef} {o : Nat} (hS : hSt n R o) {f : hMem} (x : Int32) : hCt l z m_X4_holderOf [.ref (z.1 + o), .int x] n (putS M o f) R n (some (aref z o (sHold f x))) (putS M o f) R := by
  refine hs_start [some (.ref (z.1 + o)), some (.int x)] (by decide +kernel) rfl (by intro u hu; simp at hu; rcases hu with rfl | rfl <;> first | rfl | exact isR_cat kv_isR | exact isR_cat aref_isR) (Nat.le_of_ble_eq_true rfl) (Nat.le_refl _) (fun X hlX hN hC hQ => ?_)
  dsimp only at hC hQ
  refine gx_aload_n (i := 0) hC dX4_holderOf_0 rfl rfl (by first | exact Or.inr ⟨_, rfl⟩ | exact Or.inl rfl | exact kv_isR | exact aref_isR) ?_
  refine gx_iload_n (i := 1) hC dX4_holderOf_1 rfl rfl ?_
  refine gx_callV1 hC dX4_holderOf_2 (c_X4_hasLevel _ _ hS _) kY_X4_hasLevel kV_X4_hasLevel ml_X4_88 (by first | exact hS.at | exact hS.aa | exact hS.ah | exact hS.ac (by assumption) | exact hS.ac (by omega)) rfl (by decide) rfl rfl rfl (by first | exact Nat.le_of_ble_eq_true rfl | (simp [Value.category, isR_cat kv_isR, isR_cat aref_isR]; done)) (Nat.le_refl _) (Nat.le_refl _) ?_
  refine gx_ifb_eq (tgt := 21) hC dX4_holderOf_5 (by decide) (fun c_5 => ?_) (fun c_5 => ?_)
  · refine gx_aconst_null hC dX4_holderOf_21 ?_
    exact gx_aret hC hQ dX4_holderOf_22 (by first | exact Or.inr ⟨_, rfl⟩ | exact Or.inl rfl | exact kv_isR | exact aref_isR) (by unfold sHold; first | rw [if_pos (by assumption)] | (rw [if_neg (by simp [*])]; rfl)) (rfl) rfl
  · refine gx_aload_n (i := 0) hC dX4_holderOf_8 rfl rfl (by first | exact Or.inr ⟨_, rfl⟩ | exact Or.inl rfl | exact kv_isR | exact aref_isR) ?_
    refine gx_aload_n (i := 0) hC dX4_holderOf_9 rfl rfl (by first | exact Or.inr ⟨_, rfl⟩ | exact Or.inl rfl | exact kv_isR | exact aref_isR) ?_
    refine gx_getR hC dX4_holderOf_10 fl_X4_17 (by first | exact hS.at | exact hS.aa | exact hS.ah | exact hS.ac (by assumption) | exact hS.ac (by omega)) rfl (hS.rh) (by have := hS.1; omega) ?_
    refine gx_iload_n (i := 1) hC dX4_holderOf_13 rfl rfl ?_
    refine gx_iald hC dX4_holderOf_14 (by first | exact hS.at | exact hS.aa | exact hS.ah | exact hS.ac (by assumption) | exact hS.ac (by omega)) (by exact bHas_in (by assumption)) (pSj (by decide)) ?_
    refine gx_callV1 hC dX4_holderOf_15 (c_X4_numbered _ _ hS _) kY_X4_numbered kV_X4_numbered ml_X4_74 (by first | exact hS.at | exact hS.aa | exact hS.ah | exact hS.ac (by assumption) | exact hS.ac (by omega)) rfl (by decide) rfl rfl rfl (by first | exact Nat.le_of_ble_eq_true rfl | (simp [Value.category, isR_cat kv_isR, isR_cat aref_isR]; done)) (Nat.le_refl _) (Nat.le_refl _) ?_
    refine gx_goto (tgt := 22) hC dX4_holderOf_18 (by decide) ?_
    exact gx_aret hC hQ dX4_holderOf_22 (by first | exact Or.inr ⟨_, rfl⟩ | exact Or.inl rfl | exact kv_isR | exact aref_isR) (by unfold sHold; first | rw [if_pos (by assumption)] | (rw [if_neg (by simp [*])]; rfl)) (rfl) rfl
def bFree (f : hMem) (x : Int32) : Bool := decide (bHas f x = true ∧ f 2 x.toNatClampNeg = -6)
set_option maxHeartbeats 4000000 in
set_option maxRecDepth 20000 in
theorem c_X4_isFree (l : Launch) (z : hZt) {n : Nat} {M : hMem} {R : hRef} {o : Nat} (hS : hSt n R o) {f : hMem} (x : Int32) : hCt l z m_X4_isFree [.ref (z.1 + o), .int x] n (putS M o f) R n (some (.int (b2 (bFree f x)))) (putS M o f) R := by
  refine hs_start [some (.ref (z.1 + o)), some (.int x)] (by decide +kernel) rfl (by intro u hu; simp at hu; rcases hu with rfl | rfl <;> first | rfl | exact isR_cat kv_isR | exact isR_cat aref_isR) (Nat.le_of_ble_eq_true rfl) (Nat.le_refl _) (fun X hlX hN hC hQ => ?_)
  dsimp only at hC hQ
  refine gx_aload_n (i := 0) hC dX4_isFree_0 rfl rfl (by first | exact Or.inr ⟨_, rfl⟩ | exact Or.inl rfl | exact kv_isR | exact aref_isR) ?_
  refine gx_iload_n (i := 1) hC dX4_isFree_1 rfl rfl ?_
  refine gx_callV1 hC dX4_isFree_2 (c_X4_hasLevel _ _ hS _) kY_X4_hasLevel kV_X4_hasLevel ml_X4_88 (by first | exact hS.at | exact hS.aa | exact hS.ah | exact hS.ac (by assumption) | exact hS.ac (by omega)) rfl (by decide) rfl rfl rfl (by first | exact Nat.le_of_ble_eq_true rfl | (simp [Value.category, isR_cat kv_isR, isR_cat aref_isR]; done)) (Nat.le_refl _) (Nat.le_refl _) ?_
  refine gx_ifb_eq (tgt := 23) hC dX4_isFree_5 (by decide) (fun c_5 => ?_) (fun c_5 => ?_)
  · refine gx_iconst (v := 0) hC dX4_isFree_23 ic_0 ?_
    exact gx_zret hC hQ dX4_isFree_24 (by first | exact Or.inl rfl | exact Or.inr rfl | exact b2_bit _ | assumption) (by first | exact bv1 (by unfold bFree; exact decide_eq_true ⟨by assumption, by assumption⟩) | exact bv0 (by unfold bFree; exact decide_eq_false (fun h => by simp_all))) (rfl) rfl
  · refine gx_aload_n (i := 0) hC dX4_isFree_8 rfl rfl (by first | exact Or.inr ⟨_, rfl⟩ | exact Or.inl rfl | exact kv_isR | exact aref_isR) ?_
    refine gx_getR hC dX4_isFree_9 fl_X4_17 (by first | exact hS.at | exact hS.aa | exact hS.ah | exact hS.ac (by assumption) | exact hS.ac (by omega)) rfl (hS.rh) (by have := hS.1; omega) ?_
    refine gx_iload_n (i := 1) hC dX4_isFree_12 rfl rfl ?_
    refine gx_iald hC dX4_isFree_13 (by first | exact hS.at | exact hS.aa | exact hS.ah | exact hS.ac (by assumption) | exact hS.ac (by omega)) (by exact bHas_in (by assumption)) (pSj (by decide)) ?_
    refine gx_bipush (v := -6) hC dX4_isFree_14 bp_m6 ?_
    refine gx_icmp_ne (tgt := 23) hC dX4_isFree_16 (by decide) (fun c_16 => ?_) (fun c_16 => ?_)
    · refine gx_iconst (v := 0) hC dX4_isFree_23 ic_0 ?_
      exact gx_zret hC hQ dX4_isFree_24 (by first | exact Or.inl rfl | exact Or.inr rfl | exact b2_bit _ | assumption) (by first | exact bv1 (by unfold bFree; exact decide_eq_true ⟨by assumption, by assumption⟩) | exact bv0 (by unfold bFree; exact decide_eq_false (fun h => by simp_all))) (rfl) rfl
    · refine gx_iconst (v := 1) hC dX4_isFree_19 ic_1 ?_
      refine gx_goto (tgt := 24) hC dX4_isFree_20 (by decide) ?_
      exact gx_zret hC hQ dX4_isFree_24 (by first | exact Or.inl rfl | exact Or.inr rfl | exact b2_bit _ | assumption) (by first | exact bv1 (by unfold bFree; exact decide_eq_true ⟨by assumption, by assumption⟩) | exact bv0 (by unfold bFree; exact decide_eq_false (fun h => by simp_all))) (rfl) rfl
def bFull (f : hMem) : Bool := decide (nI 20 ≤ f 0 2)
set_option maxHeartbeats 4000000 in
set_option maxRecDepth 20000 in
theorem c_X4_isFull (l : Launch) (z : hZt) {n : Nat} {M : hMem} {R : hRef} {o : Nat} (hS : hSt n R o) {f : hMem} : hCt l z m_X4_isFull [.ref (z.1 + o)] n (putS M o f) R n (some (.int (b2 (bFull f)))) (putS M o f) R := by
  refine hs_start [some (.ref (z.1 + o))] (by decide +kernel) rfl (by intro u hu; simp at hu; subst hu <;> first | rfl | exact isR_cat kv_isR | exact isR_cat aref_isR) (Nat.le_of_ble_eq_true rfl) (Nat.le_refl _) (fun X hlX hN hC hQ => ?_)
  dsimp only at hC hQ
  refine gx_aload_n (i := 0) hC dX4_isFull_0 rfl rfl (by first | exact Or.inr ⟨_, rfl⟩ | exact Or.inl rfl | exact kv_isR | exact aref_isR) ?_
  refine gx_getI hC dX4_isFull_1 fl_X4_47 (by first | exact hS.at | exact hS.aa | exact hS.ah | exact hS.ac (by assumption) | exact hS.ac (by omega)) (by decide) (pS0) ?_
  refine gx_aload_n (i := 0) hC dX4_isFull_4 rfl rfl (by first | exact Or.inr ⟨_, rfl⟩ | exact Or.inl rfl | exact kv_isR | exact aref_isR) ?_
  refine gx_getR hC dX4_isFull_5 fl_X4_11 (by first | exact hS.at | exact hS.aa | exact hS.ah | exact hS.ac (by assumption) | exact hS.ac (by omega)) rfl (hS.ra) (by have := hS.1; omega) ?_
  refine gx_alenN hC dX4_isFull_8 (by first | exact hS.at | exact hS.aa | exact hS.ah | exact hS.ac (by assumption) | exact hS.ac (by omega)) (by decide) ?_
  refine gx_icmp_lt (tgt := 16) hC dX4_isFull_9 (by decide) (fun c_9 => ?_) (fun c_9 => ?_)
  · refine gx_iconst (v := 0) hC dX4_isFull_16 ic_0 ?_
    exact gx_zret hC hQ dX4_isFull_17 (by first | exact Or.inl rfl | exact Or.inr rfl | exact b2_bit _ | assumption) (by first | exact bv1 (by unfold bFull; exact decide_eq_true (by (clear hQ hC hN hlX; simp only [Int32.le_iff_toInt_le, Int32.lt_iff_toInt_lt, Int32.not_le, Int32.not_lt, ← Int32.toInt_inj, i32c_0, i32c_1, i32c_2, i32c_3, i32c_4, i32c_5, i32c_6, i32c_7, i32c_8, i32c_9, i32c_16, i32c_20, i32c_99, i32c_m1, i32c_m6, ni_16, ni_20, ni_80, ni_2, ni_5, ni_0, ne_eq] at *; omega))) | exact bv0 (by unfold bFull; exact decide_eq_false (by (clear hQ hC hN hlX; simp only [Int32.le_iff_toInt_le, Int32.lt_iff_toInt_lt, Int32.not_le, Int32.not_lt, ← Int32.toInt_inj, i32c_0, i32c_1, i32c_2, i32c_3, i32c_4, i32c_5, i32c_6, i32c_7, i32c_8, i32c_9, i32c_16, i32c_20, i32c_99, i32c_m1, i32c_m6, ni_16, ni_20, ni_80, ni_2, ni_5, ni_0, ne_eq] at *; omega)))) (rfl) rfl
  · refine gx_iconst (v := 1) hC dX4_isFull_12 ic_1 ?_
    refine gx_goto (tgt := 17) hC dX4_isFull_13 (by decide) ?_
    exact gx_zret hC hQ dX4_isFull_17 (by first | exact Or.inl rfl | exact Or.inr rfl | exact b2_bit _ | assumption) (by first | exact bv1 (by unfold bFull; exact decide_eq_true (by (clear hQ hC hN hlX; simp only [Int32.le_iff_toInt_le, Int32.lt_iff_toInt_lt, Int32.not_le, Int32.not_lt, ← Int32.toInt_inj, i32c_0, i32c_1, i32c_2, i32c_3, i32c_4, i32c_5, i32c_6, i32c_7, i32c_8, i32c_9, i32c_16, i32c_20, i32c_99, i32c_m1, i32c_m6, ni_16, ni_20, ni_80, ni_2, ni_5, ni_0, ne_eq] at *; omega))) | exact bv0 (by unfold bFull; exact decide_eq_false (by (clear hQ hC hN hlX; simp only [Int32.le_iff_toInt_le, Int32.lt_iff_toInt_lt, Int32.not_le, Int32.not_lt, ← Int32.toInt_inj, i32c_0, i32c_1, i32c_2, i32c_3, i32c_4, i32c_5, i32c_6, i32c_7, i32c_8, i32c_9, i32c_16, i32c_20, i32c_99, i32c_m1, i32c_m6, ni_16, ni_20, ni_80, ni_2, ni_5, ni_0, ne_eq] at *; omega)))) (rfl) rfl
def sSetH (f : hMem) (x v : Int32) : hMem := if 0 ≤ x ∧ x < nI 16 then up2 f 2 x.toNatClampNeg v else f
set_option maxHeartbeats 4000000 in
set_option maxRecDepth 20000 in
theorem c_X4_setHolder (l : Launch) (z : hZt) {n : Nat} {M : hMem} {R : hRef} {o : Nat} (hS : hSt n R o) {f : hMem} (x v : Int32) : hCt l z m_X4_setHolder [.ref (z.1 + o), .int x, .int v] n (putS M o f) R n none (putS M o (sSetH f x v)) R := by
  refine hs_start [some (.ref (z.1 + o)), some (.int x), some (.int v)] (by decide +kernel) rfl (by intro u hu; simp at hu; rcases hu with rfl | rfl | rfl <;> first | rfl | exact isR_cat kv_isR | exact isR_cat aref_isR) (Nat.le_of_ble_eq_true rfl) (Nat.le_refl _) (fun X hlX hN hC hQ => ?_)
  dsimp only at hC hQ
  refine gx_iload_n (i := 1) hC dX4_setHolder_0 rfl rfl ?_
  refine gx_if_lt (tgt := 20) hC dX4_setHolder_1 (by decide) (fun c_1 => ?_) (fun c_1 => ?_)
  · exact gx_vret hC hQ dX4_setHolder_20 (by unfold sSetH; first | rw [if_pos (by (clear hQ hC hN hlX; simp only [Int32.le_iff_toInt_le, Int32.lt_iff_toInt_lt, Int32.not_le, Int32.not_lt, ← Int32.toInt_inj, i32c_0, i32c_1, i32c_2, i32c_3, i32c_4, i32c_5, i32c_6, i32c_7, i32c_8, i32c_9, i32c_16, i32c_20, i32c_99, i32c_m1, i32c_m6, ni_16, ni_20, ni_80, ni_2, ni_5, ni_0, ne_eq] at *; omega))] | rw [if_neg (by (clear hQ hC hN hlX; simp only [Int32.le_iff_toInt_le, Int32.lt_iff_toInt_lt, Int32.not_le, Int32.not_lt, ← Int32.toInt_inj, i32c_0, i32c_1, i32c_2, i32c_3, i32c_4, i32c_5, i32c_6, i32c_7, i32c_8, i32c_9, i32c_16, i32c_20, i32c_99, i32c_m1, i32c_m6, ni_16, ni_20, ni_80, ni_2, ni_5, ni_0, ne_eq] at *; omega))]) rfl
  · refine gx_iload_n (i := 1) hC dX4_setHolder_4 rfl rfl ?_
    refine gx_aload_n (i := 0) hC dX4_setHolder_5 rfl rfl (by first | exact Or.inr ⟨_, rfl⟩ | exact Or.inl rfl | exact kv_isR | exact aref_isR) ?_
    refine gx_getR hC dX4_setHolder_6 fl_X4_17 (by first | exact hS.at | exact hS.aa | exact hS.ah | exact hS.ac (by assumption) | exact hS.ac (by omega)) rfl (hS.rh) (by have := hS.1; omega) ?_
    refine gx_alenN hC dX4_setHolder_9 (by first | exact hS.at | exact hS.aa | exact hS.ah | exact hS.ac (by assumption) | exact hS.ac (by omega)) (by decide) ?_
    refine gx_icmp_ge (tgt := 20) hC dX4_setHolder_10 (by decide) (fun c_10 => ?_) (fun c_10 => ?_)
    · exact gx_vret hC hQ dX4_setHolder_20 (by unfold sSetH; first | rw [if_pos (by (clear hQ hC hN hlX; simp only [Int32.le_iff_toInt_le, Int32.lt_iff_toInt_lt, Int32.not_le, Int32.not_lt, ← Int32.toInt_inj, i32c_0, i32c_1, i32c_2, i32c_3, i32c_4, i32c_5, i32c_6, i32c_7, i32c_8, i32c_9, i32c_16, i32c_20, i32c_99, i32c_m1, i32c_m6, ni_16, ni_20, ni_80, ni_2, ni_5, ni_0, ne_eq] at *; omega))] | rw [if_neg (by (clear hQ hC hN hlX; simp only [Int32.le_iff_toInt_le, Int32.lt_iff_toInt_lt, Int32.not_le, Int32.not_lt, ← Int32.toInt_inj, i32c_0, i32c_1, i32c_2, i32c_3, i32c_4, i32c_5, i32c_6, i32c_7, i32c_8, i32c_9, i32c_16, i32c_20, i32c_99, i32c_m1, i32c_m6, ni_16, ni_20, ni_80, ni_2, ni_5, ni_0, ne_eq] at *; omega))]) rfl
    · refine gx_aload_n (i := 0) hC dX4_setHolder_13 rfl rfl (by first | exact Or.inr ⟨_, rfl⟩ | exact Or.inl rfl | exact kv_isR | exact aref_isR) ?_
      refine gx_getR hC dX4_setHolder_14 fl_X4_17 (by first | exact hS.at | exact hS.aa | exact hS.ah | exact hS.ac (by assumption) | exact hS.ac (by omega)) rfl (hS.rh) (by have := hS.1; omega) ?_
      refine gx_iload_n (i := 1) hC dX4_setHolder_17 rfl rfl ?_
      refine gx_iload_n (i := 2) hC dX4_setHolder_18 rfl rfl ?_
      refine gx_iastM hC dX4_setHolder_19 (by first | exact hS.at | exact hS.aa | exact hS.ah | exact hS.ac (by assumption) | exact hS.ac (by omega)) (by (clear hQ hC hN hlX; simp only [vp_in_iff, Int32.le_iff_toInt_le, Int32.lt_iff_toInt_lt, Int32.not_le, Int32.not_lt, ← Int32.toInt_inj, i32c_0, i32c_1, i32c_2, i32c_3, i32c_4, i32c_5, i32c_6, i32c_7, i32c_8, i32c_9, i32c_16, i32c_20, i32c_99, i32c_m1, i32c_m6, ni_16, ni_20, ni_80, ni_2, ni_5, ni_0, ne_eq] at *; omega)) (up_S (by omega)) ?_
      exact gx_vret hC hQ dX4_setHolder_20 (by unfold sSetH; first | rw [if_pos (by (clear hQ hC hN hlX; simp only [Int32.le_iff_toInt_le, Int32.lt_iff_toInt_lt, Int32.not_le, Int32.not_lt, ← Int32.toInt_inj, i32c_0, i32c_1, i32c_2, i32c_3, i32c_4, i32c_5, i32c_6, i32c_7, i32c_8, i32c_9, i32c_16, i32c_20, i32c_99, i32c_m1, i32c_m6, ni_16, ni_20, ni_80, ni_2, ni_5, ni_0, ne_eq] at *; omega))] | rw [if_neg (by (clear hQ hC hN hlX; simp only [Int32.le_iff_toInt_le, Int32.lt_iff_toInt_lt, Int32.not_le, Int32.not_lt, ← Int32.toInt_inj, i32c_0, i32c_1, i32c_2, i32c_3, i32c_4, i32c_5, i32c_6, i32c_7, i32c_8, i32c_9, i32c_16, i32c_20, i32c_99, i32c_m1, i32c_m6, ni_16, ni_20, ni_80, ni_2, ni_5, ni_0, ne_eq] at *; omega))]) rfl
/-- what every state keeps: levels, aircraft, their numbers and kinds -/
def SW (f : hMem) (lv c : Nat) : Prop := (f 0 3 = nI lv ∧ lv ≤ 16) ∧ (f 0 2 = nI c ∧ c ≤ 20) ∧ ∀ j, j < 20 → f (3 + j) 0 = nI j ∧ hk (f (3 + j) 1)
theorem SW.lv {f : hMem} {lv c : Nat} (h : SW f lv c) : f 0 3 = nI lv := h.1.1
theorem SW.l16 {f : hMem} {lv c : Nat} (h : SW f lv c) : lv ≤ 16 := h.1.2
theorem SW.ct {f : hMem} {lv c : Nat} (h : SW f lv c) : f 0 2 = nI c := h.2.1.1
theorem SW.c20 {f : hMem} {lv c : Nat} (h : SW f lv c) : c ≤ 20 := h.2.1.2
theorem SW.nu {f : hMem} {lv c j : Nat} (h : SW f lv c) (hj : j < 20) : f (3 + j) 0 = nI j := (h.2.2 j hj).1
theorem SW.kd {f : hMem} {lv c j : Nat} (h : SW f lv c) (hj : j < 20) : hk (f (3 + j) 1) := (h.2.2 j hj).2
theorem SW.up {f : hMem} {lv c i k : Nat} {x : Int32} (h : SW f lv c) (h0 : i = 0 → k ≠ 2 ∧ k ≠ 3) (h3 : 3 ≤ i → 2 ≤ k) : SW (up2 f i k x) lv c := by
  refine ⟨⟨?_, h.l16⟩, ⟨?_, h.c20⟩, fun j hj => ⟨?_, ?_⟩⟩
  · rw [up2_off (by rintro ⟨rfl, rfl⟩; exact (h0 rfl).2 rfl)]; exact h.lv
  · rw [up2_off (by rintro ⟨rfl, rfl⟩; exact (h0 rfl).1 rfl)]; exact h.ct
  · rw [up2_off (by rintro ⟨rfl, rfl⟩; have := h3 (by omega); omega)]; exact h.nu hj
  · rw [up2_off (by rintro ⟨rfl, rfl⟩; have := h3 (by omega); omega)]; exact h.kd hj
def sCnt (f : hMem) (x : Int32) : Nat → Int32
  | 0 => 0
  | j + 1 => if f (3 + j) 3 = x then sCnt f x j + 1 else sCnt f x j
theorem ii_1 (i : Nat) : nI i + Int32.ofInt 1 = nI (i + 1) := nI_1 i
theorem vpn {i N : Nat} (h : i < N) (hN : N < 2 ^ 31) : vp_in (nI i) N := vp_in_nI h hN
theorem cle {a b : Nat} (ha : a < 2 ^ 31) (hb : b < 2 ^ 31) (h : nI a ≤ nI b) : a ≤ b := (nI_leI ha hb).mp h
theorem cnle {a b : Nat} (ha : a < 2 ^ 31) (hb : b < 2 ^ 31) (h : ¬ nI a ≤ nI b) : b < a := by have := mt (nI_leI ha hb).mpr h; omega
set_option maxHeartbeats 4000000 in
set_option maxRecDepth 20000 in
theorem c_X4_countOf (l : Launch) (z : hZt) {n : Nat} {M : hMem} {R : hRef} {o : Nat} (hS : hSt n R o) {f : hMem} {lv c : Nat} (hW : SW f lv c) (x : Int32) : hCt l z m_X4_countOf [.ref (z.1 + o), .int x] n (putS M o f) R n (some (.int (sCnt f x c))) (putS M o f) R := by
  refine hs_start [some (.ref (z.1 + o)), some (.int x), none, none] (by decide +kernel) rfl (by intro u hu; simp at hu; rcases hu with rfl | rfl <;> first | rfl | exact isR_cat kv_isR | exact isR_cat aref_isR) (Nat.le_of_ble_eq_true rfl) (Nat.le_refl _) (fun X hlX hN hC hQ => ?_)
  dsimp only at hC hQ
  have hc20 := hW.c20
  refine gx_iconst (v := 0) hC dX4_countOf_0 ic_0 ?_
  refine gx_istore_n (i := 2) (L' := [_, _, _, _]) hC dX4_countOf_1 rfl (Nat.le_of_ble_eq_true rfl) rfl (fun u h9 => by first | exact Or.inl rfl | (cases h9; done) | (right; cases h9; first | rfl | exact isR_cat aref_isR | exact isR_cat kv_isR)) ?_
  refine gx_iconst (v := nI 0) hC dX4_countOf_2 ic_0n ?_
  refine gx_istore_n (i := 3) (L' := [_, _, _, _]) hC dX4_countOf_3 rfl (Nat.le_of_ble_eq_true rfl) rfl (fun u h9 => by first | exact Or.inl rfl | (cases h9; done) | (right; cases h9; first | rfl | exact isR_cat aref_isR | exact isR_cat kv_isR)) ?_
  have loop_4 : ∀ (k : Nat) (i : Nat), c - i < k → i ≤ c → hG z n X n (putS M o f) R 4 [some (.ref (z.1 + o)), some (.int x), some (.int (sCnt f x i)), some (.int (nI i))] [] := by
    intro k
    induction k with
    | zero => intros; omega
    | succ k ih =>
      intro i hk1 hi
      refine gx_iload_n (i := 3) hC dX4_countOf_4 rfl rfl ?_
      refine gx_aload_n (i := 0) hC dX4_countOf_5 rfl rfl (by first | exact Or.inr ⟨_, rfl⟩ | exact Or.inl rfl | exact kv_isR | exact aref_isR) ?_
      refine gx_getR hC dX4_countOf_6 fl_X4_11 (by first | exact hS.at | exact hS.aa | exact hS.ah | exact hS.ac (by assumption) | exact hS.ac (by omega)) rfl (hS.ra) (by have := hS.1; omega) ?_
      refine gx_alenN hC dX4_countOf_9 (by first | exact hS.at | exact hS.aa | exact hS.ah | exact hS.ac (by assumption) | exact hS.ac (by omega)) (by decide) ?_
      refine gx_icmp_ge (tgt := 43) hC dX4_countOf_10 (by decide) (fun c_10 => ?_) (fun c_10 => ?_)
      · have d_10 := cle (by omega) (by omega) c_10
        refine gx_iload_n (i := 2) hC dX4_countOf_43 rfl rfl ?_
        exact gx_iret hC hQ dX4_countOf_44 (by rw [show c = i by omega]) (rfl) rfl
      · have d_10 := cnle (by omega) (by omega) c_10
        refine gx_iload_n (i := 3) hC dX4_countOf_13 rfl rfl ?_
        refine gx_aload_n (i := 0) hC dX4_countOf_14 rfl rfl (by first | exact Or.inr ⟨_, rfl⟩ | exact Or.inl rfl | exact kv_isR | exact aref_isR) ?_
        refine gx_getI hC dX4_countOf_15 fl_X4_47 (by first | exact hS.at | exact hS.aa | exact hS.ah | exact hS.ac (by assumption) | exact hS.ac (by omega)) (by decide) (pS0.trans hW.ct) ?_
        refine gx_icmp_ge (tgt := 43) hC dX4_countOf_18 (by decide) (fun c_18 => ?_) (fun c_18 => ?_)
        · have d_18 := cle (by omega) (by omega) c_18
          refine gx_iload_n (i := 2) hC dX4_countOf_43 rfl rfl ?_
          exact gx_iret hC hQ dX4_countOf_44 (by rw [show c = i by omega]) (rfl) rfl
        · have d_18 := cnle (by omega) (by omega) c_18
          refine gx_aload_n (i := 0) hC dX4_countOf_21 rfl rfl (by first | exact Or.inr ⟨_, rfl⟩ | exact Or.inl rfl | exact kv_isR | exact aref_isR) ?_
          refine gx_getR hC dX4_countOf_22 fl_X4_11 (by first | exact hS.at | exact hS.aa | exact hS.ah | exact hS.ac (by assumption) | exact hS.ac (by omega)) rfl (hS.ra) (by have := hS.1; omega) ?_
          refine gx_iload_n (i := 3) hC dX4_countOf_25 rfl rfl ?_
          refine gx_aald hC dX4_countOf_26 (by first | exact hS.at | exact hS.aa | exact hS.ah | exact hS.ac (by assumption) | exact hS.ac (by omega)) (by first | exact Or.inl rfl | exact Or.inr rfl) (by exact vpn (by omega) (by decide)) ((congrArg (R (o + 1)) (nI_clamp (by omega))).trans (hS.rc (by omega))) (by have := hS.1; omega) ?_
          refine gx_getI hC dX4_countOf_27 fl_X4_92 (by first | exact hS.at | exact hS.aa | exact hS.ah | exact hS.ac (by assumption) | exact hS.ac (by omega)) (by decide) (pSj (by omega)) ?_
          refine gx_iload_n (i := 1) hC dX4_countOf_30 rfl rfl ?_
          refine gx_icmp_ne (tgt := 37) hC dX4_countOf_31 (by decide) (fun c_31 => ?_) (fun c_31 => ?_)
          · refine gx_iinc (i := 3) (L' := [_, _, _, _]) hC dX4_countOf_37 rfl (ii_1 _) (Nat.le_of_ble_eq_true rfl) rfl (fun u h9 => by first | exact Or.inl rfl | (cases h9; done) | (right; cases h9; first | rfl | exact isR_cat aref_isR | exact isR_cat kv_isR)) ?_
            refine gx_goto (tgt := 4) hC dX4_countOf_40 (by decide) ?_
            first | (rw [show sCnt f x i + Int32.ofInt 1 = sCnt f x (i + 1) by rw [sCnt, if_pos (by assumption)]; rfl]; exact ih (i + 1) (by omega) (by omega)) | (rw [show sCnt f x i = sCnt f x (i + 1) by rw [sCnt, if_neg (by assumption)]]; exact ih (i + 1) (by omega) (by omega))
          · refine gx_iinc (i := 2) (L' := [_, _, _, _]) hC dX4_countOf_34 rfl rfl (Nat.le_of_ble_eq_true rfl) rfl (fun u h9 => by first | exact Or.inl rfl | (cases h9; done) | (right; cases h9; first | rfl | exact isR_cat aref_isR | exact isR_cat kv_isR)) ?_
            refine gx_iinc (i := 3) (L' := [_, _, _, _]) hC dX4_countOf_37 rfl (ii_1 _) (Nat.le_of_ble_eq_true rfl) rfl (fun u h9 => by first | exact Or.inl rfl | (cases h9; done) | (right; cases h9; first | rfl | exact isR_cat aref_isR | exact isR_cat kv_isR)) ?_
            refine gx_goto (tgt := 4) hC dX4_countOf_40 (by decide) ?_
            first | (rw [show sCnt f x i + Int32.ofInt 1 = sCnt f x (i + 1) by rw [sCnt, if_pos (by assumption)]; rfl]; exact ih (i + 1) (by omega) (by omega)) | (rw [show sCnt f x i = sCnt f x (i + 1) by rw [sCnt, if_neg (by assumption)]]; exact ih (i + 1) (by omega) (by omega))
  exact loop_4 (c + 1) 0 (by omega) (by omega)
