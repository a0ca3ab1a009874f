/-! the strips: their reader's numbers are s, their text is t -/
def putRow (M : hMem) (i : Nat) (s : Nat → Int32) : hMem := fun b k => if b = i then s k else M b k
theorem pRs {M : hMem} {i k : Nat} {s : Nat → Int32} : putRow M i s i k = s k := by simp [putRow]
theorem pRo {M : hMem} {i b k : Nat} {s : Nat → Int32} (h : b ≠ i) : putRow M i s b k = M b k := by simp [putRow, h]
theorem up_R {M : hMem} {i k : Nat} {s : Nat → Int32} {x : Int32} : up2 (putRow M i s) i k x = putRow M i (upd s k x) := by
  funext b q
  unfold up2 putRow
  by_cases hb : b = i
  · subst hb
    by_cases hq : q = k
    · subst hq; simp [upd]
    · simp [hq, upd]
  · simp [hb]
theorem putRow_get {M : hMem} {i : Nat} : putRow M i (M i) = M := by
  funext b q
  unfold putRow
  split
  · next h => rw [h]
  · rfl
theorem putRow_put {M : hMem} {i : Nat} {s t : Nat → Int32} : putRow (putRow M i s) i t = putRow M i t := by
  funext b q
  unfold putRow
  split <;> rfl
def isC (x : Int32) : Prop := ∃ q, q < 65536 ∧ x = nI q
def sPk (t s : Nat → Int32) : Int32 := if 0 ≤ s 2 ∧ s 2 < s 1 ∧ s 2 < nI 80 then t (s 2).toNatClampNeg else 0
def sFail (s : Nat → Int32) (w : Int32) : Nat → Int32 := if s 3 = -6 then upd s 3 w else s
def sExp (t s : Nat → Int32) (c : Int32) : Nat → Int32 := if sPk t s = c then upd s 2 (s 2 + 1) else sFail s (s 2)
def bDig (x : Int32) : Bool := decide (48 ≤ x ∧ x ≤ 57)
theorem sPk_C {n : Nat} {M : hMem} {s : Nat → Int32} (h : Wf n M) (hn : 215 ≤ n) : isC (sPk (M 214) s) := by
  unfold sPk
  split
  · next hc =>
    have h1 := (h 214 (by omega)).2.2 (by decide) (s 2).toNatClampNeg (by
      show (s 2).toNatClampNeg < 80
      exact clamp_lt (by rw [Int32.not_lt]; exact hc.1) (by rw [Int32.not_le]; exact hc.2.2) (by decide))
    exact h1
  · exact ⟨0, by decide, rfl⟩
theorem Wf_row {n i : Nat} {M : hMem} {s : Nat → Int32} {R : hRef} (hi : i < n) : Wf n (putRow M i s) → ∀ j, j ≠ i → j < n → Wfc (ty j) (M j) := by
  intro h j hj hn
  have := h j hn
  have e : putRow M i s j = M j := by funext k; exact pRo hj
  rw [e] at this
  exact this
set_option maxHeartbeats 4000000 in
set_option maxRecDepth 20000 in
theorem c_X5_peek (l : Launch) (z : hZt) {n : Nat} {M : hMem} {R : hRef} (gG : GS n R) {s : Nat → Int32} : hCt l z m_X5_peek [.ref (z.1 + 213)] n (putRow M 213 s) R n (some (.int (sPk (M 214) s))) (putRow M 213 s) R := by
  refine hs_start [some (.ref (z.1 + 213))] (by decide +kernel) rfl (by intro u hu; simp at hu; subst hu <;> first | rfl | exact isR_cat kv_isR | exact isR_cat aref_isR) (Nat.le_of_ble_eq_true rfl) (Nat.le_refl _) (fun X hlX hN hC hQ => ?_)
  dsimp only at hC hQ
  refine gx_aload_n (i := 0) hC dX5_peek_0 rfl rfl (by first | exact Or.inr ⟨_, rfl⟩ | exact Or.inl rfl | exact kv_isR | exact aref_isR) ?_
  refine gx_getI hC dX5_peek_1 fl_X5_22 (by first | exact gG.at213 | exact gG.at214) (by decide) (pRs) ?_
  refine gx_if_lt (tgt := 42) hC dX5_peek_4 (by decide) (fun c_4 => ?_) (fun c_4 => ?_)
  · refine gx_iconst (v := 0) hC dX5_peek_42 ic_0 ?_
    exact gx_cret hC hQ dX5_peek_43 (by first | exact hz_38 | exact ⟨0, by decide, rfl⟩) ((by unfold sPk; rw [if_neg (fun q => absurd c_4 (Int32.not_lt.mpr q.1))])) (rfl) rfl
  · refine gx_aload_n (i := 0) hC dX5_peek_7 rfl rfl (by first | exact Or.inr ⟨_, rfl⟩ | exact Or.inl rfl | exact kv_isR | exact aref_isR) ?_
    refine gx_getI hC dX5_peek_8 fl_X5_22 (by first | exact gG.at213 | exact gG.at214) (by decide) (pRs) ?_
    refine gx_aload_n (i := 0) hC dX5_peek_11 rfl rfl (by first | exact Or.inr ⟨_, rfl⟩ | exact Or.inl rfl | exact kv_isR | exact aref_isR) ?_
    refine gx_getI hC dX5_peek_12 fl_X5_19 (by first | exact gG.at213 | exact gG.at214) (by decide) (pRs) ?_
    refine gx_icmp_ge (tgt := 42) hC dX5_peek_15 (by decide) (fun c_15 => ?_) (fun c_15 => ?_)
    · refine gx_iconst (v := 0) hC dX5_peek_42 ic_0 ?_
      exact gx_cret hC hQ dX5_peek_43 (by first | exact hz_38 | exact ⟨0, by decide, rfl⟩) ((by unfold sPk; rw [if_neg (fun q => absurd c_15 (Int32.not_le.mpr q.2.1))])) (rfl) rfl
    · refine gx_aload_n (i := 0) hC dX5_peek_18 rfl rfl (by first | exact Or.inr ⟨_, rfl⟩ | exact Or.inl rfl | exact kv_isR | exact aref_isR) ?_
      refine gx_getI hC dX5_peek_19 fl_X5_22 (by first | exact gG.at213 | exact gG.at214) (by decide) (pRs) ?_
      refine gx_aload_n (i := 0) hC dX5_peek_22 rfl rfl (by first | exact Or.inr ⟨_, rfl⟩ | exact Or.inl rfl | exact kv_isR | exact aref_isR) ?_
      refine gx_getR hC dX5_peek_23 fl_X5_9 (by first | exact gG.at213 | exact gG.at214) rfl (gG.q5) (by decide) ?_
      refine gx_alenN hC dX5_peek_26 (by first | exact gG.at213 | exact gG.at214) (by decide) ?_
      refine gx_icmp_ge (tgt := 42) hC dX5_peek_27 (by decide) (fun c_27 => ?_) (fun c_27 => ?_)
      · refine gx_iconst (v := 0) hC dX5_peek_42 ic_0 ?_
        exact gx_cret hC hQ dX5_peek_43 (by first | exact hz_38 | exact ⟨0, by decide, rfl⟩) ((by unfold sPk; rw [if_neg (fun q => absurd c_27 (Int32.not_le.mpr q.2.2))])) (rfl) rfl
      · refine gx_aload_n (i := 0) hC dX5_peek_30 rfl rfl (by first | exact Or.inr ⟨_, rfl⟩ | exact Or.inl rfl | exact kv_isR | exact aref_isR) ?_
        refine gx_getR hC dX5_peek_31 fl_X5_9 (by first | exact gG.at213 | exact gG.at214) rfl (gG.q5) (by decide) ?_
        refine gx_aload_n (i := 0) hC dX5_peek_34 rfl rfl (by first | exact Or.inr ⟨_, rfl⟩ | exact Or.inl rfl | exact kv_isR | exact aref_isR) ?_
        refine gx_getI hC dX5_peek_35 fl_X5_22 (by first | exact gG.at213 | exact gG.at214) (by decide) (pRs) ?_
        refine gx_cald hC dX5_peek_38 (by first | exact gG.at213 | exact gG.at214) (by (rw [vp_in_iff]; clear hQ hC hN hlX; simp only [Int32.le_iff_toInt_le, Int32.lt_iff_toInt_lt, Int32.not_le, Int32.not_lt, ← Int32.toInt_inj, i32c_0, i32c_1, i32c_2, i32c_3, i32c_4, i32c_5, i32c_6, i32c_7, i32c_8, i32c_9, i32c_16, i32c_20, i32c_99, i32c_m1, i32c_m6, ni_16, ni_20, ni_80, ni_2, ni_5, ni_0, ne_eq] at *; omega)) (pRo (by decide)) (fun hz_38 => ?_)
        refine gx_goto (tgt := 43) hC dX5_peek_39 (by decide) ?_
        exact gx_cret hC hQ dX5_peek_43 (by first | exact hz_38 | exact ⟨0, by decide, rfl⟩) ((by unfold sPk; rw [if_pos ⟨Int32.not_lt.mp c_4, Int32.not_le.mp c_15, Int32.not_le.mp c_27⟩])) (rfl) rfl
set_option maxHeartbeats 4000000 in
set_option maxRecDepth 20000 in
theorem c_X5_fail (l : Launch) (z : hZt) {n : Nat} {M : hMem} {R : hRef} (gG : GS n R) {s : Nat → Int32} (x : Int32) : hCt l z m_X5_fail [.ref (z.1 + 213), .int x] n (putRow M 213 s) R n none (putRow M 213 (sFail s x)) R := by
  refine hs_start [some (.ref (z.1 + 213)), some (.int x)] (by decide +kernel) rfl (by intro u hu; simp at hu; rcases hu with rfl | rfl <;> first | rfl | exact isR_cat kv_isR | exact isR_cat aref_isR) (Nat.le_of_ble_eq_true rfl) (Nat.le_refl _) (fun X hlX hN hC hQ => ?_)
  dsimp only at hC hQ
  refine gx_aload_n (i := 0) hC dX5_fail_0 rfl rfl (by first | exact Or.inr ⟨_, rfl⟩ | exact Or.inl rfl | exact kv_isR | exact aref_isR) ?_
  refine gx_getI hC dX5_fail_1 fl_X5_15 (by first | exact gG.at213 | exact gG.at214) (by decide) (pRs) ?_
  refine gx_bipush (v := -6) hC dX5_fail_4 bp_m6 ?_
  refine gx_icmp_ne (tgt := 14) hC dX5_fail_6 (by decide) (fun c_6 => ?_) (fun c_6 => ?_)
  · exact gx_vret hC hQ dX5_fail_14 (by unfold sFail; rw [if_neg c_6]) rfl
  · refine gx_aload_n (i := 0) hC dX5_fail_9 rfl rfl (by first | exact Or.inr ⟨_, rfl⟩ | exact Or.inl rfl | exact kv_isR | exact aref_isR) ?_
    refine gx_iload_n (i := 1) hC dX5_fail_10 rfl rfl ?_
    refine gx_putI hC dX5_fail_11 fl_X5_15 (by first | exact gG.at213 | exact gG.at214) fn_4_3 rfl (up_R) ?_
    exact gx_vret hC hQ dX5_fail_14 (by unfold sFail; rw [if_pos c_6]) rfl
set_option maxHeartbeats 4000000 in
set_option maxRecDepth 20000 in
theorem c_X5_expect (l : Launch) (z : hZt) {n : Nat} {M : hMem} {R : hRef} (gG : GS n R) {s : Nat → Int32} (x : Int32) : hCt l z m_X5_expect [.ref (z.1 + 213), .int x] n (putRow M 213 s) R n none (putRow M 213 (sExp (M 214) s x)) R := by
  refine hs_start [some (.ref (z.1 + 213)), some (.int x)] (by decide +kernel) rfl (by intro u hu; simp at hu; rcases hu with rfl | rfl <;> first | rfl | exact isR_cat kv_isR | exact isR_cat aref_isR) (Nat.le_of_ble_eq_true rfl) (Nat.le_refl _) (fun X hlX hN hC hQ => ?_)
  dsimp only at hC hQ
  refine gx_aload_n (i := 0) hC dX5_expect_0 rfl rfl (by first | exact Or.inr ⟨_, rfl⟩ | exact Or.inl rfl | exact kv_isR | exact aref_isR) ?_
  refine gx_callV1 hC dX5_expect_1 (c_X5_peek _ _ gG) kY_X5_peek kV_X5_peek ml_X5_32 (by first | exact gG.at213 | exact gG.at214) rfl (by decide) rfl rfl rfl (by first | exact Nat.le_of_ble_eq_true rfl | (simp [Value.category, isR_cat kv_isR, isR_cat aref_isR]; done)) (Nat.le_refl _) (Nat.le_refl _) ?_
  refine gx_iload_n (i := 1) hC dX5_expect_4 rfl rfl ?_
  refine gx_icmp_ne (tgt := 21) hC dX5_expect_5 (by decide) (fun c_5 => ?_) (fun c_5 => ?_)
  · refine gx_aload_n (i := 0) hC dX5_expect_21 rfl rfl (by first | exact Or.inr ⟨_, rfl⟩ | exact Or.inl rfl | exact kv_isR | exact aref_isR) ?_
    refine gx_aload_n (i := 0) hC dX5_expect_22 rfl rfl (by first | exact Or.inr ⟨_, rfl⟩ | exact Or.inl rfl | exact kv_isR | exact aref_isR) ?_
    refine gx_getI hC dX5_expect_23 fl_X5_22 (by first | exact gG.at213 | exact gG.at214) (by decide) (pRs) ?_
    refine gx_callV0 hC dX5_expect_26 (c_X5_fail _ _ gG _) kY_X5_fail kV_X5_fail ml_X5_50 (by first | exact gG.at213 | exact gG.at214) rfl (by decide) rfl rfl rfl (by first | exact Nat.le_of_ble_eq_true rfl | (simp [Value.category, isR_cat kv_isR, isR_cat aref_isR]; done)) (Nat.le_refl _) (Nat.le_refl _) ?_
    exact gx_vret hC hQ dX5_expect_29 (by unfold sExp; rw [if_neg c_5]) rfl
  · refine gx_aload_n (i := 0) hC dX5_expect_8 rfl rfl (by first | exact Or.inr ⟨_, rfl⟩ | exact Or.inl rfl | exact kv_isR | exact aref_isR) ?_
    refine gx_dup hC dX5_expect_9 (by first | rfl | exact isR_cat kv_isR | exact isR_cat aref_isR) ?_
    refine gx_getI hC dX5_expect_10 fl_X5_22 (by first | exact gG.at213 | exact gG.at214) (by decide) (pRs) ?_
    refine gx_iconst (v := 1) hC dX5_expect_13 ic_1 ?_
    refine gx_iadd hC dX5_expect_14 ?_
    refine gx_putI hC dX5_expect_15 fl_X5_22 (by first | exact gG.at213 | exact gG.at214) fn_4_2 rfl (up_R) ?_
    refine gx_goto (tgt := 29) hC dX5_expect_18 (by decide) ?_
    exact gx_vret hC hQ dX5_expect_29 (by unfold sExp; rw [if_pos c_5]) rfl
theorem i32c_48 : (48 : Int32).toInt = 48 := by decide
theorem i32c_57 : (57 : Int32).toInt = 57 := by decide
set_option maxHeartbeats 4000000 in
set_option maxRecDepth 20000 in
theorem c_X5_isDigit (l : Launch) (z : hZt) {n : Nat} {M : hMem} {R : hRef} (x : Int32) : hCt l z m_X5_isDigit [.int x] n M R n (some (.int (b2 (bDig x)))) M R := by
  refine hs_start [some (.int x)] (by decide +kernel) rfl (by intro u hu; simp at hu; subst hu <;> first | rfl | exact isR_cat kv_isR | exact isR_cat aref_isR) (Nat.le_of_ble_eq_true rfl) (Nat.le_refl _) (fun X hlX hN hC hQ => ?_)
  dsimp only at hC hQ
  refine gx_iload_n (i := 0) hC dX5_isDigit_0 rfl rfl ?_
  refine gx_bipush (v := 48) hC dX5_isDigit_1 bp_48 ?_
  refine gx_icmp_lt (tgt := 16) hC dX5_isDigit_3 (by decide) (fun c_3 => ?_) (fun c_3 => ?_)
  · refine gx_iconst (v := 0) hC dX5_isDigit_16 ic_0 ?_
    exact gx_zret hC hQ dX5_isDigit_17 (by first | exact Or.inl rfl | exact Or.inr rfl | exact b2_bit _ | assumption) (by first | exact bv1 (by unfold bDig; exact decide_eq_true (by (clear hQ hC hN hlX; simp only [Int32.le_iff_toInt_le, Int32.lt_iff_toInt_lt, Int32.not_le, Int32.not_lt, ← Int32.toInt_inj, i32c_0, i32c_1, i32c_2, i32c_3, i32c_4, i32c_5, i32c_6, i32c_7, i32c_8, i32c_9, i32c_16, i32c_20, i32c_99, i32c_m1, i32c_m6, ni_16, ni_20, ni_80, ni_2, ni_5, ni_0, ne_eq, i32c_48, i32c_57] at *; omega))) | exact bv0 (by unfold bDig; exact decide_eq_false (by (clear hQ hC hN hlX; simp only [Int32.le_iff_toInt_le, Int32.lt_iff_toInt_lt, Int32.not_le, Int32.not_lt, ← Int32.toInt_inj, i32c_0, i32c_1, i32c_2, i32c_3, i32c_4, i32c_5, i32c_6, i32c_7, i32c_8, i32c_9, i32c_16, i32c_20, i32c_99, i32c_m1, i32c_m6, ni_16, ni_20, ni_80, ni_2, ni_5, ni_0, ne_eq, i32c_48, i32c_57] at *; omega)))) (rfl) rfl
  · refine gx_iload_n (i := 0) hC dX5_isDigit_6 rfl rfl ?_
    refine gx_bipush (v := 57) hC dX5_isDigit_7 bp_57 ?_
    refine gx_icmp_gt (tgt := 16) hC dX5_isDigit_9 (by decide) (fun c_9 => ?_) (fun c_9 => ?_)
    · refine gx_iconst (v := 0) hC dX5_isDigit_16 ic_0 ?_
      exact gx_zret hC hQ dX5_isDigit_17 (by first | exact Or.inl rfl | exact Or.inr rfl | exact b2_bit _ | assumption) (by first | exact bv1 (by unfold bDig; exact decide_eq_true (by (clear hQ hC hN hlX; simp only [Int32.le_iff_toInt_le, Int32.lt_iff_toInt_lt, Int32.not_le, Int32.not_lt, ← Int32.toInt_inj, i32c_0, i32c_1, i32c_2, i32c_3, i32c_4, i32c_5, i32c_6, i32c_7, i32c_8, i32c_9, i32c_16, i32c_20, i32c_99, i32c_m1, i32c_m6, ni_16, ni_20, ni_80, ni_2, ni_5, ni_0, ne_eq, i32c_48, i32c_57] at *; omega))) | exact bv0 (by unfold bDig; exact decide_eq_false (by (clear hQ hC hN hlX; simp only [Int32.le_iff_toInt_le, Int32.lt_iff_toInt_lt, Int32.not_le, Int32.not_lt, ← Int32.toInt_inj, i32c_0, i32c_1, i32c_2, i32c_3, i32c_4, i32c_5, i32c_6, i32c_7, i32c_8, i32c_9, i32c_16, i32c_20, i32c_99, i32c_m1, i32c_m6, ni_16, ni_20, ni_80, ni_2, ni_5, ni_0, ne_eq, i32c_48, i32c_57] at *; omega)))) (rfl) rfl
    · refine gx_iconst (v := 1) hC dX5_isDigit_12 ic_1 ?_
      refine gx_goto (tgt := 17) hC dX5_isDigit_13 (by decide) ?_
      exact gx_zret hC hQ dX5_isDigit_17 (by first | exact Or.inl rfl | exact Or.inr rfl | exact b2_bit _ | assumption) (by first | exact bv1 (by unfold bDig; exact decide_eq_true (by (clear hQ hC hN hlX; simp only [Int32.le_iff_toInt_le, Int32.lt_iff_toInt_lt, Int32.not_le, Int32.not_lt, ← Int32.toInt_inj, i32c_0, i32c_1, i32c_2, i32c_3, i32c_4, i32c_5, i32c_6, i32c_7, i32c_8, i32c_9, i32c_16, i32c_20, i32c_99, i32c_m1, i32c_m6, ni_16, ni_20, ni_80, ni_2, ni_5, ni_0, ne_eq, i32c_48, i32c_57] at *; omega))) | exact bv0 (by unfold bDig; exact decide_eq_false (by (clear hQ hC hN hlX; simp only [Int32.le_iff_toInt_le, Int32.lt_iff_toInt_lt, Int32.not_le, Int32.not_lt, ← Int32.toInt_inj, i32c_0, i32c_1, i32c_2, i32c_3, i32c_4, i32c_5, i32c_6, i32c_7, i32c_8, i32c_9, i32c_16, i32c_20, i32c_99, i32c_m1, i32c_m6, ni_16, ni_20, ni_80, ni_2, ni_5, ni_0, ne_eq, i32c_48, i32c_57] at *; omega)))) (rfl) rfl
/-- digits, k at most: the number, and the reader behind them -/
def rnL (t : Nat → Int32) : Nat → (Nat → Int32) → Int32 → Int32 × (Nat → Int32)
  | 0, s, v => (v, s)
  | k + 1, s, v => if bDig (sPk t s) = true then rnL t k (upd s 2 (s 2 + 1)) (10 * v + (sPk t s - 48)) else (v, s)
theorem rnL_f {t s : Nat → Int32} {k : Nat} {v : Int32} (h : bDig (sPk t s) = false) : rnL t (k + 1) s v = (v, s) := by rw [rnL, h]; rfl
theorem rnL_t {t s : Nat → Int32} {k : Nat} {v : Int32} (h : bDig (sPk t s) = true) : rnL t (k + 1) s v = rnL t k (upd s 2 (s 2 + 1)) (10 * v + (sPk t s - 48)) := by rw [rnL, if_pos h]
def rnD (t s : Nat → Int32) : Nat := if sPk t s = 48 then 1 else 4
def rnE (first lo hi : Int32) (r : Int32 × (Nat → Int32)) : Int32 × (Nat → Int32) := if r.2 2 = first ∨ r.1 < lo ∨ hi < r.1 then (r.1, sFail r.2 first) else r
/-- a number of the text -/
def sNm (t s : Nat → Int32) (lo hi : Int32) : Int32 × (Nat → Int32) := rnE (s 2) lo hi (rnL t (rnD t s) s 0)
set_option maxHeartbeats 4000000 in
set_option maxRecDepth 20000 in
theorem c_X5_readNumber (l : Launch) (z : hZt) {n : Nat} {M : hMem} {R : hRef} (gG : GS n R) {s : Nat → Int32} (lo hi : Int32) : hCt l z m_X5_readNumber [.ref (z.1 + 213), .int lo, .int hi] n (putRow M 213 s) R n (some (.int (sNm (M 214) s lo hi).1)) (putRow M 213 (sNm (M 214) s lo hi).2) R := by
  refine hs_start [some (.ref (z.1 + 213)), some (.int lo), some (.int hi), none, none, none, none] (by decide +kernel) rfl (by intro u hu; simp at hu; rcases hu with rfl | rfl | rfl <;> first | rfl | exact isR_cat kv_isR | exact isR_cat aref_isR) (Nat.le_of_ble_eq_true rfl) (Nat.le_refl _) (fun X hlX hN hC hQ => ?_)
  dsimp only at hC hQ
  have join : ∀ (D : Nat), D < 10 → ∀ (k i : Nat) (g : Nat → Int32) (v : Int32), D = i + k → rnL (M 214) (rnD (M 214) s) s 0 = rnL (M 214) k g v → hG z n X n (putRow M 213 g) R 27 [some (.ref (z.1 + 213)), some (.int lo), some (.int hi), some (.int (s 2)), some (.int (nI D)), some (.int v), some (.int (nI i))] [] := by
    intro D hD9 k
    induction k with
    | zero =>
      intro i g v hD he
      obtain rfl : D = i := by omega
      refine gx_iload hC dX5_readNumber_27 rfl ?_
      refine gx_iload hC dX5_readNumber_29 rfl ?_
      refine gx_icmp_ge (tgt := 75) hC dX5_readNumber_31 (by decide) (fun c_31 => ?_) (fun c_31 => ?_)
      · refine gx_aload_n (i := 0) hC dX5_readNumber_75 rfl rfl (by first | exact Or.inr ⟨_, rfl⟩ | exact Or.inl rfl | exact kv_isR | exact aref_isR) ?_
        refine gx_getI hC dX5_readNumber_76 fl_X5_22 (by first | exact gG.at213 | exact gG.at214) (by decide) (pRs) ?_
        refine gx_iload_n (i := 3) hC dX5_readNumber_79 rfl rfl ?_
        refine gx_icmp_eq (tgt := 95) hC dX5_readNumber_80 (by decide) (fun c_80 => ?_) (fun c_80 => ?_)
        · refine gx_aload_n (i := 0) hC dX5_readNumber_95 rfl rfl (by first | exact Or.inr ⟨_, rfl⟩ | exact Or.inl rfl | exact kv_isR | exact aref_isR) ?_
          refine gx_iload_n (i := 3) hC dX5_readNumber_96 rfl rfl ?_
          refine gx_callV0 hC dX5_readNumber_97 (c_X5_fail _ _ gG _) kY_X5_fail kV_X5_fail ml_X5_50 (by first | exact gG.at213 | exact gG.at214) rfl (by decide) rfl rfl rfl (by first | exact Nat.le_of_ble_eq_true rfl | (simp [Value.category, isR_cat kv_isR, isR_cat aref_isR]; done)) (Nat.le_refl _) (Nat.le_refl _) ?_
          refine gx_iload hC dX5_readNumber_100 rfl ?_
          exact gx_iret hC hQ dX5_readNumber_102 ((by unfold sNm rnE; rw [he, rnL, if_pos (Or.inl c_80)])) ((by unfold sNm rnE; rw [he, rnL, if_pos (Or.inl c_80)])) rfl
        · refine gx_iload hC dX5_readNumber_83 rfl ?_
          refine gx_iload_n (i := 1) hC dX5_readNumber_85 rfl rfl ?_
          refine gx_icmp_lt (tgt := 95) hC dX5_readNumber_86 (by decide) (fun c_86 => ?_) (fun c_86 => ?_)
          · refine gx_aload_n (i := 0) hC dX5_readNumber_95 rfl rfl (by first | exact Or.inr ⟨_, rfl⟩ | exact Or.inl rfl | exact kv_isR | exact aref_isR) ?_
            refine gx_iload_n (i := 3) hC dX5_readNumber_96 rfl rfl ?_
            refine gx_callV0 hC dX5_readNumber_97 (c_X5_fail _ _ gG _) kY_X5_fail kV_X5_fail ml_X5_50 (by first | exact gG.at213 | exact gG.at214) rfl (by decide) rfl rfl rfl (by first | exact Nat.le_of_ble_eq_true rfl | (simp [Value.category, isR_cat kv_isR, isR_cat aref_isR]; done)) (Nat.le_refl _) (Nat.le_refl _) ?_
            refine gx_iload hC dX5_readNumber_100 rfl ?_
            exact gx_iret hC hQ dX5_readNumber_102 ((by unfold sNm rnE; rw [he, rnL, if_pos (Or.inr (Or.inl c_86))])) ((by unfold sNm rnE; rw [he, rnL, if_pos (Or.inr (Or.inl c_86))])) rfl
          · refine gx_iload hC dX5_readNumber_89 rfl ?_
            refine gx_iload_n (i := 2) hC dX5_readNumber_91 rfl rfl ?_
            refine gx_icmp_le (tgt := 100) hC dX5_readNumber_92 (by decide) (fun c_92 => ?_) (fun c_92 => ?_)
            · refine gx_iload hC dX5_readNumber_100 rfl ?_
              exact gx_iret hC hQ dX5_readNumber_102 ((by unfold sNm rnE; rw [he, rnL, if_neg (fun q => q.elim c_80 (fun q => q.elim c_86 (Int32.not_lt.mpr c_92)))])) ((by unfold sNm rnE; rw [he, rnL, if_neg (fun q => q.elim c_80 (fun q => q.elim c_86 (Int32.not_lt.mpr c_92)))])) rfl
            · refine gx_aload_n (i := 0) hC dX5_readNumber_95 rfl rfl (by first | exact Or.inr ⟨_, rfl⟩ | exact Or.inl rfl | exact kv_isR | exact aref_isR) ?_
              refine gx_iload_n (i := 3) hC dX5_readNumber_96 rfl rfl ?_
              refine gx_callV0 hC dX5_readNumber_97 (c_X5_fail _ _ gG _) kY_X5_fail kV_X5_fail ml_X5_50 (by first | exact gG.at213 | exact gG.at214) rfl (by decide) rfl rfl rfl (by first | exact Nat.le_of_ble_eq_true rfl | (simp [Value.category, isR_cat kv_isR, isR_cat aref_isR]; done)) (Nat.le_refl _) (Nat.le_refl _) ?_
              refine gx_iload hC dX5_readNumber_100 rfl ?_
              exact gx_iret hC hQ dX5_readNumber_102 ((by unfold sNm rnE; rw [he, rnL, if_pos (Or.inr (Or.inr (Int32.not_le.mp c_92)))])) ((by unfold sNm rnE; rw [he, rnL, if_pos (Or.inr (Or.inr (Int32.not_le.mp c_92)))])) rfl
      · exact absurd (Int32.le_refl _) c_31
    | succ k ih =>
      intro i g v hD he
      refine gx_iload hC dX5_readNumber_27 rfl ?_
      refine gx_iload hC dX5_readNumber_29 rfl ?_
      refine gx_icmp_ge (tgt := 75) hC dX5_readNumber_31 (by decide) (fun c_31 => ?_) (fun c_31 => ?_)
      · have d_31 := cle (by omega) (by omega) c_31
        omega
      · refine gx_aload_n (i := 0) hC dX5_readNumber_34 rfl rfl (by first | exact Or.inr ⟨_, rfl⟩ | exact Or.inl rfl | exact kv_isR | exact aref_isR) ?_
        refine gx_callV1 hC dX5_readNumber_35 (c_X5_peek _ _ gG) kY_X5_peek kV_X5_peek ml_X5_32 (by first | exact gG.at213 | exact gG.at214) rfl (by decide) rfl rfl rfl (by first | exact Nat.le_of_ble_eq_true rfl | (simp [Value.category, isR_cat kv_isR, isR_cat aref_isR]; done)) (Nat.le_refl _) (Nat.le_refl _) ?_
        refine gx_callS1 hC dX5_readNumber_38 (c_X5_isDigit _ _ _) kY_X5_isDigit kS_X5_isDigit ml_X5_80 (by decide) rfl rfl rfl (by first | exact Nat.le_of_ble_eq_true rfl | (simp [Value.category, isR_cat kv_isR, isR_cat aref_isR]; done)) (Nat.le_refl _) (Nat.le_refl _) ?_
        refine gx_ifb_eq (tgt := 75) hC dX5_readNumber_41 (by decide) (fun c_41 => ?_) (fun c_41 => ?_)
        · refine gx_aload_n (i := 0) hC dX5_readNumber_75 rfl rfl (by first | exact Or.inr ⟨_, rfl⟩ | exact Or.inl rfl | exact kv_isR | exact aref_isR) ?_
          refine gx_getI hC dX5_readNumber_76 fl_X5_22 (by first | exact gG.at213 | exact gG.at214) (by decide) (pRs) ?_
          refine gx_iload_n (i := 3) hC dX5_readNumber_79 rfl rfl ?_
          refine gx_icmp_eq (tgt := 95) hC dX5_readNumber_80 (by decide) (fun c_80 => ?_) (fun c_80 => ?_)
          · refine gx_aload_n (i := 0) hC dX5_readNumber_95 rfl rfl (by first | exact Or.inr ⟨_, rfl⟩ | exact Or.inl rfl | exact kv_isR | exact aref_isR) ?_
            refine gx_iload_n (i := 3) hC dX5_readNumber_96 rfl rfl ?_
            refine gx_callV0 hC dX5_readNumber_97 (c_X5_fail _ _ gG _) kY_X5_fail kV_X5_fail ml_X5_50 (by first | exact gG.at213 | exact gG.at214) rfl (by decide) rfl rfl rfl (by first | exact Nat.le_of_ble_eq_true rfl | (simp [Value.category, isR_cat kv_isR, isR_cat aref_isR]; done)) (Nat.le_refl _) (Nat.le_refl _) ?_
            refine gx_iload hC dX5_readNumber_100 rfl ?_
            exact gx_iret hC hQ dX5_readNumber_102 ((by unfold sNm rnE; rw [he, rnL_f c_41, if_pos (Or.inl c_80)])) ((by unfold sNm rnE; rw [he, rnL_f c_41, if_pos (Or.inl c_80)])) rfl
          · refine gx_iload hC dX5_readNumber_83 rfl ?_
            refine gx_iload_n (i := 1) hC dX5_readNumber_85 rfl rfl ?_
            refine gx_icmp_lt (tgt := 95) hC dX5_readNumber_86 (by decide) (fun c_86 => ?_) (fun c_86 => ?_)
            · refine gx_aload_n (i := 0) hC dX5_readNumber_95 rfl rfl (by first | exact Or.inr ⟨_, rfl⟩ | exact Or.inl rfl | exact kv_isR | exact aref_isR) ?_
              refine gx_iload_n (i := 3) hC dX5_readNumber_96 rfl rfl ?_
              refine gx_callV0 hC dX5_readNumber_97 (c_X5_fail _ _ gG _) kY_X5_fail kV_X5_fail ml_X5_50 (by first | exact gG.at213 | exact gG.at214) rfl (by decide) rfl rfl rfl (by first | exact Nat.le_of_ble_eq_true rfl | (simp [Value.category, isR_cat kv_isR, isR_cat aref_isR]; done)) (Nat.le_refl _) (Nat.le_refl _) ?_
              refine gx_iload hC dX5_readNumber_100 rfl ?_
              exact gx_iret hC hQ dX5_readNumber_102 ((by unfold sNm rnE; rw [he, rnL_f c_41, if_pos (Or.inr (Or.inl c_86))])) ((by unfold sNm rnE; rw [he, rnL_f c_41, if_pos (Or.inr (Or.inl c_86))])) rfl
            · refine gx_iload hC dX5_readNumber_89 rfl ?_
              refine gx_iload_n (i := 2) hC dX5_readNumber_91 rfl rfl ?_
              refine gx_icmp_le (tgt := 100) hC dX5_readNumber_92 (by decide) (fun c_92 => ?_) (fun c_92 => ?_)
              · refine gx_iload hC dX5_readNumber_100 rfl ?_
                exact gx_iret hC hQ dX5_readNumber_102 ((by unfold sNm rnE; rw [he, rnL_f c_41, if_neg (fun q => q.elim c_80 (fun q => q.elim c_86 (Int32.not_lt.mpr c_92)))])) ((by unfold sNm rnE; rw [he, rnL_f c_41, if_neg (fun q => q.elim c_80 (fun q => q.elim c_86 (Int32.not_lt.mpr c_92)))])) rfl
              · refine gx_aload_n (i := 0) hC dX5_readNumber_95 rfl rfl (by first | exact Or.inr ⟨_, rfl⟩ | exact Or.inl rfl | exact kv_isR | exact aref_isR) ?_
                refine gx_iload_n (i := 3) hC dX5_readNumber_96 rfl rfl ?_
                refine gx_callV0 hC dX5_readNumber_97 (c_X5_fail _ _ gG _) kY_X5_fail kV_X5_fail ml_X5_50 (by first | exact gG.at213 | exact gG.at214) rfl (by decide) rfl rfl rfl (by first | exact Nat.le_of_ble_eq_true rfl | (simp [Value.category, isR_cat kv_isR, isR_cat aref_isR]; done)) (Nat.le_refl _) (Nat.le_refl _) ?_
                refine gx_iload hC dX5_readNumber_100 rfl ?_
                exact gx_iret hC hQ dX5_readNumber_102 ((by unfold sNm rnE; rw [he, rnL_f c_41, if_pos (Or.inr (Or.inr (Int32.not_le.mp c_92)))])) ((by unfold sNm rnE; rw [he, rnL_f c_41, if_pos (Or.inr (Or.inr (Int32.not_le.mp c_92)))])) rfl
        · refine gx_bipush (v := 10) hC dX5_readNumber_44 bp_10 ?_
          refine gx_iload hC dX5_readNumber_46 rfl ?_
          refine gx_imul hC dX5_readNumber_48 ?_
          refine gx_aload_n (i := 0) hC dX5_readNumber_49 rfl rfl (by first | exact Or.inr ⟨_, rfl⟩ | exact Or.inl rfl | exact kv_isR | exact aref_isR) ?_
          refine gx_callV1 hC dX5_readNumber_50 (c_X5_peek _ _ gG) kY_X5_peek kV_X5_peek ml_X5_32 (by first | exact gG.at213 | exact gG.at214) rfl (by decide) rfl rfl rfl (by first | exact Nat.le_of_ble_eq_true rfl | (simp [Value.category, isR_cat kv_isR, isR_cat aref_isR]; done)) (Nat.le_refl _) (Nat.le_refl _) ?_
          refine gx_bipush (v := 48) hC dX5_readNumber_53 bp_48 ?_
          refine gx_isub hC dX5_readNumber_55 ?_
          refine gx_iadd hC dX5_readNumber_56 ?_
          refine gx_istore (i := 5) (L' := [_, _, _, _, _, _, _]) hC dX5_readNumber_57 (Nat.le_of_ble_eq_true rfl) rfl (fun u h9 => by first | exact Or.inl rfl | (cases h9; done) | (right; cases h9; first | rfl | exact isR_cat aref_isR | exact isR_cat kv_isR)) ?_
          refine gx_aload_n (i := 0) hC dX5_readNumber_59 rfl rfl (by first | exact Or.inr ⟨_, rfl⟩ | exact Or.inl rfl | exact kv_isR | exact aref_isR) ?_
          refine gx_dup hC dX5_readNumber_60 (by first | rfl | exact isR_cat kv_isR | exact isR_cat aref_isR) ?_
          refine gx_getI hC dX5_readNumber_61 fl_X5_22 (by first | exact gG.at213 | exact gG.at214) (by decide) (pRs) ?_
          refine gx_iconst (v := 1) hC dX5_readNumber_64 ic_1 ?_
          refine gx_iadd hC dX5_readNumber_65 ?_
          refine gx_putI hC dX5_readNumber_66 fl_X5_22 (by first | exact gG.at213 | exact gG.at214) fn_4_2 rfl (up_R) ?_
          refine gx_iinc (i := 6) (L' := [_, _, _, _, _, _, _]) hC dX5_readNumber_69 rfl (ii_1 _) (Nat.le_of_ble_eq_true rfl) rfl (fun u h9 => by first | exact Or.inl rfl | (cases h9; done) | (right; cases h9; first | rfl | exact isR_cat aref_isR | exact isR_cat kv_isR)) ?_
          refine gx_goto (tgt := 27) hC dX5_readNumber_72 (by decide) ?_
          exact ih (i + 1) _ _ (by omega) (by rw [he, rnL_t c_41])
  refine gx_aload_n (i := 0) hC dX5_readNumber_0 rfl rfl (by first | exact Or.inr ⟨_, rfl⟩ | exact Or.inl rfl | exact kv_isR | exact aref_isR) ?_
  refine gx_getI hC dX5_readNumber_1 fl_X5_22 (by first | exact gG.at213 | exact gG.at214) (by decide) (pRs) ?_
  refine gx_istore_n (i := 3) (L' := [_, _, _, _, _, _, _]) hC dX5_readNumber_4 rfl (Nat.le_of_ble_eq_true rfl) rfl (fun u h9 => by first | exact Or.inl rfl | (cases h9; done) | (right; cases h9; first | rfl | exact isR_cat aref_isR | exact isR_cat kv_isR)) ?_
  refine gx_aload_n (i := 0) hC dX5_readNumber_5 rfl rfl (by first | exact Or.inr ⟨_, rfl⟩ | exact Or.inl rfl | exact kv_isR | exact aref_isR) ?_
  refine gx_callV1 hC dX5_readNumber_6 (c_X5_peek _ _ gG) kY_X5_peek kV_X5_peek ml_X5_32 (by first | exact gG.at213 | exact gG.at214) rfl (by decide) rfl rfl rfl (by first | exact Nat.le_of_ble_eq_true rfl | (simp [Value.category, isR_cat kv_isR, isR_cat aref_isR]; done)) (Nat.le_refl _) (Nat.le_refl _) ?_
  refine gx_bipush (v := 48) hC dX5_readNumber_9 bp_48 ?_
  refine gx_icmp_ne (tgt := 18) hC dX5_readNumber_11 (by decide) (fun c_11 => ?_) (fun c_11 => ?_)
  · refine gx_iconst (v := nI 4) hC dX5_readNumber_18 ic_4n ?_
    refine gx_istore (i := 4) (L' := [_, _, _, _, _, _, _]) hC dX5_readNumber_19 (Nat.le_of_ble_eq_true rfl) rfl (fun u h9 => by first | exact Or.inl rfl | (cases h9; done) | (right; cases h9; first | rfl | exact isR_cat aref_isR | exact isR_cat kv_isR)) ?_
    refine gx_iconst (v := 0) hC dX5_readNumber_21 ic_0 ?_
    refine gx_istore (i := 5) (L' := [_, _, _, _, _, _, _]) hC dX5_readNumber_22 (Nat.le_of_ble_eq_true rfl) rfl (fun u h9 => by first | exact Or.inl rfl | (cases h9; done) | (right; cases h9; first | rfl | exact isR_cat aref_isR | exact isR_cat kv_isR)) ?_
    refine gx_iconst (v := nI 0) hC dX5_readNumber_24 ic_0n ?_
    refine gx_istore (i := 6) (L' := [_, _, _, _, _, _, _]) hC dX5_readNumber_25 (Nat.le_of_ble_eq_true rfl) rfl (fun u h9 => by first | exact Or.inl rfl | (cases h9; done) | (right; cases h9; first | rfl | exact isR_cat aref_isR | exact isR_cat kv_isR)) ?_
    exact join 4 (by decide) 4 0 s 0 rfl (by unfold rnD; rw [if_neg c_11])
  · refine gx_iconst (v := nI 1) hC dX5_readNumber_14 ic_1n ?_
    refine gx_goto (tgt := 19) hC dX5_readNumber_15 (by decide) ?_
    refine gx_istore (i := 4) (L' := [_, _, _, _, _, _, _]) hC dX5_readNumber_19 (Nat.le_of_ble_eq_true rfl) rfl (fun u h9 => by first | exact Or.inl rfl | (cases h9; done) | (right; cases h9; first | rfl | exact isR_cat aref_isR | exact isR_cat kv_isR)) ?_
    refine gx_iconst (v := 0) hC dX5_readNumber_21 ic_0 ?_
    refine gx_istore (i := 5) (L' := [_, _, _, _, _, _, _]) hC dX5_readNumber_22 (Nat.le_of_ble_eq_true rfl) rfl (fun u h9 => by first | exact Or.inl rfl | (cases h9; done) | (right; cases h9; first | rfl | exact isR_cat aref_isR | exact isR_cat kv_isR)) ?_
    refine gx_iconst (v := nI 0) hC dX5_readNumber_24 ic_0n ?_
    refine gx_istore (i := 6) (L' := [_, _, _, _, _, _, _]) hC dX5_readNumber_25 (Nat.le_of_ble_eq_true rfl) rfl (fun u h9 => by first | exact Or.inl rfl | (cases h9; done) | (right; cases h9; first | rfl | exact isR_cat aref_isR | exact isR_cat kv_isR)) ?_
    exact join 1 (by decide) 1 0 s 0 rfl (by unfold rnD; rw [if_pos c_11])
def cKd (x : Int32) : Int32 := if x = 108 then 0 else if x = 109 then 1 else 2
/-- the letter of a kind: what it is, and the reader behind it -/
def sKd (t s : Nat → Int32) : Nat → Int32 := if sPk t s = 108 ∨ sPk t s = 109 ∨ sPk t s = 104 then upd s 2 (s 2 + 1) else upd (sFail s (s 2)) 2 (sFail s (s 2) 2 + 1)
set_option maxHeartbeats 4000000 in
set_option maxRecDepth 20000 in
theorem c_X5_readKind (l : Launch) (z : hZt) {n : Nat} {M : hMem} {R : hRef} (gG : GS n R) {s : Nat → Int32} : hCt l z m_X5_readKind [.ref (z.1 + 213)] n (putRow M 213 s) R n (some (kv z.2.1 (cKd (sPk (M 214) s)))) (putRow M 213 (sKd (M 214) s)) R := by
  refine hs_start [some (.ref (z.1 + 213)), none] (by decide +kernel) rfl (by intro u hu; simp at hu; subst hu <;> first | rfl | exact isR_cat kv_isR | exact isR_cat aref_isR) (Nat.le_of_ble_eq_true rfl) (Nat.le_refl _) (fun X hlX hN hC hQ => ?_)
  dsimp only at hC hQ
  refine gx_aload_n (i := 0) hC dX5_readKind_0 rfl rfl (by first | exact Or.inr ⟨_, rfl⟩ | exact kv_isR) ?_
  refine gx_callV1 hC dX5_readKind_1 (c_X5_peek _ _ gG) kY_X5_peek kV_X5_peek ml_X5_32 (by first | exact gG.at213 | exact gG.at214) rfl (by decide) rfl rfl rfl (by first | exact Nat.le_of_ble_eq_true rfl | (simp [Value.category, isR_cat kv_isR, isR_cat aref_isR]; done)) (Nat.le_refl _) (Nat.le_refl _) ?_
  refine gx_istore_n (i := 1) (L' := [_, _]) hC dX5_readKind_4 rfl (Nat.le_of_ble_eq_true rfl) rfl (fun u h9 => by first | exact Or.inl rfl | (cases h9; done) | (right; cases h9; first | rfl | exact isR_cat aref_isR | exact isR_cat kv_isR)) ?_
  refine gx_iload_n (i := 1) hC dX5_readKind_5 rfl rfl ?_
  refine gx_bipush (v := 108) hC dX5_readKind_6 bp_108 ?_
  refine gx_icmp_eq (tgt := 31) hC dX5_readKind_8 (by decide) (fun c_8 => ?_) (fun c_8 => ?_)
  · refine gx_aload_n (i := 0) hC dX5_readKind_31 rfl rfl (by first | exact Or.inr ⟨_, rfl⟩ | exact kv_isR) ?_
    refine gx_dup hC dX5_readKind_32 (by first | rfl | exact isR_cat kv_isR | exact isR_cat aref_isR) ?_
    refine gx_getI hC dX5_readKind_33 fl_X5_22 (by first | exact gG.at213 | exact gG.at214) (by decide) (pRs) ?_
    refine gx_iconst (v := 1) hC dX5_readKind_36 ic_1 ?_
    refine gx_iadd hC dX5_readKind_37 ?_
    refine gx_putI hC dX5_readKind_38 fl_X5_22 (by first | exact gG.at213 | exact gG.at214) fn_4_2 rfl (up_R) ?_
    refine gx_iload_n (i := 1) hC dX5_readKind_41 rfl rfl ?_
    refine gx_bipush (v := 108) hC dX5_readKind_42 bp_108 ?_
    refine gx_icmp_ne (tgt := 53) hC dX5_readKind_44 (by decide) (fun c_44 => ?_) (fun c_44 => ?_)
    · refine gx_iload_n (i := 1) hC dX5_readKind_53 rfl rfl ?_
      refine gx_bipush (v := 109) hC dX5_readKind_54 bp_109 ?_
      refine gx_icmp_ne (tgt := 65) hC dX5_readKind_56 (by decide) (fun c_56 => ?_) (fun c_56 => ?_)
      · refine gx_getstatic hC dX5_readKind_65 2 (by decide) fl_X5_77 ?_
        exact gx_aret hC hQ dX5_readKind_68 (by first | exact Or.inr ⟨_, rfl⟩ | exact kv_isR) ((by unfold cKd; rw [if_neg c_44, if_neg c_56]; rfl)) ((by unfold sKd; rw [if_pos (Or.inl c_8)])) rfl
      · refine gx_getstatic hC dX5_readKind_59 1 (by decide) fl_X5_74 ?_
        refine gx_goto (tgt := 68) hC dX5_readKind_62 (by decide) ?_
        exact gx_aret hC hQ dX5_readKind_68 (by first | exact Or.inr ⟨_, rfl⟩ | exact kv_isR) ((by unfold cKd; rw [if_neg c_44, if_pos c_56]; rfl)) ((by unfold sKd; rw [if_pos (Or.inl c_8)])) rfl
    · refine gx_getstatic hC dX5_readKind_47 0 (by decide) fl_X5_69 ?_
      refine gx_goto (tgt := 68) hC dX5_readKind_50 (by decide) ?_
      exact gx_aret hC hQ dX5_readKind_68 (by first | exact Or.inr ⟨_, rfl⟩ | exact kv_isR) ((by unfold cKd; rw [if_pos c_44]; rfl)) ((by unfold sKd; rw [if_pos (Or.inl c_8)])) rfl
  · refine gx_iload_n (i := 1) hC dX5_readKind_11 rfl rfl ?_
    refine gx_bipush (v := 109) hC dX5_readKind_12 bp_109 ?_
    refine gx_icmp_eq (tgt := 31) hC dX5_readKind_14 (by decide) (fun c_14 => ?_) (fun c_14 => ?_)
    · refine gx_aload_n (i := 0) hC dX5_readKind_31 rfl rfl (by first | exact Or.inr ⟨_, rfl⟩ | exact kv_isR) ?_
      refine gx_dup hC dX5_readKind_32 (by first | rfl | exact isR_cat kv_isR | exact isR_cat aref_isR) ?_
      refine gx_getI hC dX5_readKind_33 fl_X5_22 (by first | exact gG.at213 | exact gG.at214) (by decide) (pRs) ?_
      refine gx_iconst (v := 1) hC dX5_readKind_36 ic_1 ?_
      refine gx_iadd hC dX5_readKind_37 ?_
      refine gx_putI hC dX5_readKind_38 fl_X5_22 (by first | exact gG.at213 | exact gG.at214) fn_4_2 rfl (up_R) ?_
      refine gx_iload_n (i := 1) hC dX5_readKind_41 rfl rfl ?_
      refine gx_bipush (v := 108) hC dX5_readKind_42 bp_108 ?_
      refine gx_icmp_ne (tgt := 53) hC dX5_readKind_44 (by decide) (fun c_44 => ?_) (fun c_44 => ?_)
      · refine gx_iload_n (i := 1) hC dX5_readKind_53 rfl rfl ?_
        refine gx_bipush (v := 109) hC dX5_readKind_54 bp_109 ?_
        refine gx_icmp_ne (tgt := 65) hC dX5_readKind_56 (by decide) (fun c_56 => ?_) (fun c_56 => ?_)
        · refine gx_getstatic hC dX5_readKind_65 2 (by decide) fl_X5_77 ?_
          exact gx_aret hC hQ dX5_readKind_68 (by first | exact Or.inr ⟨_, rfl⟩ | exact kv_isR) ((by unfold cKd; rw [if_neg c_44, if_neg c_56]; rfl)) ((by unfold sKd; rw [if_pos (Or.inr (Or.inl c_14))])) rfl
        · refine gx_getstatic hC dX5_readKind_59 1 (by decide) fl_X5_74 ?_
          refine gx_goto (tgt := 68) hC dX5_readKind_62 (by decide) ?_
          exact gx_aret hC hQ dX5_readKind_68 (by first | exact Or.inr ⟨_, rfl⟩ | exact kv_isR) ((by unfold cKd; rw [if_neg c_44, if_pos c_56]; rfl)) ((by unfold sKd; rw [if_pos (Or.inr (Or.inl c_14))])) rfl
      · refine gx_getstatic hC dX5_readKind_47 0 (by decide) fl_X5_69 ?_
        refine gx_goto (tgt := 68) hC dX5_readKind_50 (by decide) ?_
        exact gx_aret hC hQ dX5_readKind_68 (by first | exact Or.inr ⟨_, rfl⟩ | exact kv_isR) ((by unfold cKd; rw [if_pos c_44]; rfl)) ((by unfold sKd; rw [if_pos (Or.inr (Or.inl c_14))])) rfl
    · refine gx_iload_n (i := 1) hC dX5_readKind_17 rfl rfl ?_
      refine gx_bipush (v := 104) hC dX5_readKind_18 bp_104 ?_
      refine gx_icmp_eq (tgt := 31) hC dX5_readKind_20 (by decide) (fun c_20 => ?_) (fun c_20 => ?_)
      · refine gx_aload_n (i := 0) hC dX5_readKind_31 rfl rfl (by first | exact Or.inr ⟨_, rfl⟩ | exact kv_isR) ?_
        refine gx_dup hC dX5_readKind_32 (by first | rfl | exact isR_cat kv_isR | exact isR_cat aref_isR) ?_
        refine gx_getI hC dX5_readKind_33 fl_X5_22 (by first | exact gG.at213 | exact gG.at214) (by decide) (pRs) ?_
        refine gx_iconst (v := 1) hC dX5_readKind_36 ic_1 ?_
        refine gx_iadd hC dX5_readKind_37 ?_
        refine gx_putI hC dX5_readKind_38 fl_X5_22 (by first | exact gG.at213 | exact gG.at214) fn_4_2 rfl (up_R) ?_
        refine gx_iload_n (i := 1) hC dX5_readKind_41 rfl rfl ?_
        refine gx_bipush (v := 108) hC dX5_readKind_42 bp_108 ?_
        refine gx_icmp_ne (tgt := 53) hC dX5_readKind_44 (by decide) (fun c_44 => ?_) (fun c_44 => ?_)
        · refine gx_iload_n (i := 1) hC dX5_readKind_53 rfl rfl ?_
          refine gx_bipush (v := 109) hC dX5_readKind_54 bp_109 ?_
          refine gx_icmp_ne (tgt := 65) hC dX5_readKind_56 (by decide) (fun c_56 => ?_) (fun c_56 => ?_)
          · refine gx_getstatic hC dX5_readKind_65 2 (by decide) fl_X5_77 ?_
            exact gx_aret hC hQ dX5_readKind_68 (by first | exact Or.inr ⟨_, rfl⟩ | exact kv_isR) ((by unfold cKd; rw [if_neg c_44, if_neg c_56]; rfl)) ((by unfold sKd; rw [if_pos (Or.inr (Or.inr c_20))])) rfl
          · refine gx_getstatic hC dX5_readKind_59 1 (by decide) fl_X5_74 ?_
            refine gx_goto (tgt := 68) hC dX5_readKind_62 (by decide) ?_
            exact gx_aret hC hQ dX5_readKind_68 (by first | exact Or.inr ⟨_, rfl⟩ | exact kv_isR) ((by unfold cKd; rw [if_neg c_44, if_pos c_56]; rfl)) ((by unfold sKd; rw [if_pos (Or.inr (Or.inr c_20))])) rfl
        · refine gx_getstatic hC dX5_readKind_47 0 (by decide) fl_X5_69 ?_
          refine gx_goto (tgt := 68) hC dX5_readKind_50 (by decide) ?_
          exact gx_aret hC hQ dX5_readKind_68 (by first | exact Or.inr ⟨_, rfl⟩ | exact kv_isR) ((by unfold cKd; rw [if_pos c_44]; rfl)) ((by unfold sKd; rw [if_pos (Or.inr (Or.inr c_20))])) rfl
      · refine gx_aload_n (i := 0) hC dX5_readKind_23 rfl rfl (by first | exact Or.inr ⟨_, rfl⟩ | exact kv_isR) ?_
        refine gx_aload_n (i := 0) hC dX5_readKind_24 rfl rfl (by first | exact Or.inr ⟨_, rfl⟩ | exact kv_isR) ?_
        refine gx_getI hC dX5_readKind_25 fl_X5_22 (by first | exact gG.at213 | exact gG.at214) (by decide) (pRs) ?_
        refine gx_callV0 hC dX5_readKind_28 (c_X5_fail _ _ gG _) kY_X5_fail kV_X5_fail ml_X5_50 (by first | exact gG.at213 | exact gG.at214) rfl (by decide) rfl rfl rfl (by first | exact Nat.le_of_ble_eq_true rfl | (simp [Value.category, isR_cat kv_isR, isR_cat aref_isR]; done)) (Nat.le_refl _) (Nat.le_refl _) ?_
        refine gx_aload_n (i := 0) hC dX5_readKind_31 rfl rfl (by first | exact Or.inr ⟨_, rfl⟩ | exact kv_isR) ?_
        refine gx_dup hC dX5_readKind_32 (by first | rfl | exact isR_cat kv_isR | exact isR_cat aref_isR) ?_
        refine gx_getI hC dX5_readKind_33 fl_X5_22 (by first | exact gG.at213 | exact gG.at214) (by decide) (pRs) ?_
        refine gx_iconst (v := 1) hC dX5_readKind_36 ic_1 ?_
        refine gx_iadd hC dX5_readKind_37 ?_
        refine gx_putI hC dX5_readKind_38 fl_X5_22 (by first | exact gG.at213 | exact gG.at214) fn_4_2 rfl (up_R) ?_
        refine gx_iload_n (i := 1) hC dX5_readKind_41 rfl rfl ?_
        refine gx_bipush (v := 108) hC dX5_readKind_42 bp_108 ?_
        refine gx_icmp_ne (tgt := 53) hC dX5_readKind_44 (by decide) (fun c_44 => ?_) (fun c_44 => ?_)
        · refine gx_iload_n (i := 1) hC dX5_readKind_53 rfl rfl ?_
          refine gx_bipush (v := 109) hC dX5_readKind_54 bp_109 ?_
          refine gx_icmp_ne (tgt := 65) hC dX5_readKind_56 (by decide) (fun c_56 => ?_) (fun c_56 => ?_)
          · refine gx_getstatic hC dX5_readKind_65 2 (by decide) fl_X5_77 ?_
            exact gx_aret hC hQ dX5_readKind_68 (by first | exact Or.inr ⟨_, rfl⟩ | exact kv_isR) ((by unfold cKd; rw [if_neg c_44, if_neg c_56]; rfl)) ((by unfold sKd; rw [if_neg (fun q => q.elim c_8 (fun q => q.elim c_14 c_20))])) rfl
          · refine gx_getstatic hC dX5_readKind_59 1 (by decide) fl_X5_74 ?_
            refine gx_goto (tgt := 68) hC dX5_readKind_62 (by decide) ?_
            exact gx_aret hC hQ dX5_readKind_68 (by first | exact Or.inr ⟨_, rfl⟩ | exact kv_isR) ((by unfold cKd; rw [if_neg c_44, if_pos c_56]; rfl)) ((by unfold sKd; rw [if_neg (fun q => q.elim c_8 (fun q => q.elim c_14 c_20))])) rfl
        · refine gx_getstatic hC dX5_readKind_47 0 (by decide) fl_X5_69 ?_
          refine gx_goto (tgt := 68) hC dX5_readKind_50 (by decide) ?_
          exact gx_aret hC hQ dX5_readKind_68 (by first | exact Or.inr ⟨_, rfl⟩ | exact kv_isR) ((by unfold cKd; rw [if_pos c_44]; rfl)) ((by unfold sKd; rw [if_neg (fun q => q.elim c_8 (fun q => q.elim c_14 c_20))])) rfl
def sEn1 (t s : Nat → Int32) : Nat → Int32 := upd (sKd t s) 5 (cKd (sPk t s))
def sEn2 (t s : Nat → Int32) : Nat → Int32 := upd (sNm t (sEn1 t s) 1 9999).2 6 (sNm t (sEn1 t s) 1 9999).1
def sEn3 (t s : Nat → Int32) : Nat → Int32 := sExp t (sEn2 t s) 64
/-- an entry: kind, fuel, level -/
def sEn (t s : Nat → Int32) : Nat → Int32 := upd (sNm t (sEn3 t s) 0 15).2 7 (sNm t (sEn3 t s) 0 15).1
set_option maxHeartbeats 4000000 in
set_option maxRecDepth 20000 in
theorem c_X5_readEntry (l : Launch) (z : hZt) {n : Nat} {M : hMem} {R : hRef} (gG : GS n R) {s : Nat → Int32} : hCt l z m_X5_readEntry [.ref (z.1 + 213)] n (putRow M 213 s) R n none (putRow M 213 (sEn (M 214) s)) R := by
  refine hs_start [some (.ref (z.1 + 213))] (by decide +kernel) rfl (by intro u hu; simp at hu; subst hu <;> first | rfl | exact isR_cat kv_isR | exact isR_cat aref_isR) (Nat.le_of_ble_eq_true rfl) (Nat.le_refl _) (fun X hlX hN hC hQ => ?_)
  dsimp only at hC hQ
  refine gx_aload_n (i := 0) hC dX5_readEntry_0 rfl rfl (by first | exact Or.inr ⟨_, rfl⟩ | exact Or.inl rfl | exact kv_isR | exact aref_isR) ?_
  refine gx_aload_n (i := 0) hC dX5_readEntry_1 rfl rfl (by first | exact Or.inr ⟨_, rfl⟩ | exact Or.inl rfl | exact kv_isR | exact aref_isR) ?_
  refine gx_callV1 hC dX5_readEntry_2 (c_X5_readKind _ _ gG) kY_X5_readKind kV_X5_readKind ml_X5_58 (by first | exact gG.at213 | exact gG.at214) rfl (by decide) rfl rfl rfl (by first | exact Nat.le_of_ble_eq_true rfl | (simp [Value.category, isR_cat kv_isR, isR_cat aref_isR]; done)) (Nat.le_refl _) (Nat.le_refl _) ?_
  refine gx_putE hC dX5_readEntry_5 fl_X5_62 (by first | exact gG.at213 | exact gG.at214) fn_4_5 rfl (up_R) ?_
  refine gx_aload_n (i := 0) hC dX5_readEntry_8 rfl rfl (by first | exact Or.inr ⟨_, rfl⟩ | exact Or.inl rfl | exact kv_isR | exact aref_isR) ?_
  refine gx_aload_n (i := 0) hC dX5_readEntry_9 rfl rfl (by first | exact Or.inr ⟨_, rfl⟩ | exact Or.inl rfl | exact kv_isR | exact aref_isR) ?_
  refine gx_iconst (v := 1) hC dX5_readEntry_10 ic_1 ?_
  refine gx_sipush (v := 9999) hC dX5_readEntry_11 sp_9999 ?_
  refine gx_callV1 hC dX5_readEntry_14 (c_X5_readNumber _ _ gG _ _) kY_X5_readNumber kV_X5_readNumber ml_X5_43 (by first | exact gG.at213 | exact gG.at214) rfl (by decide) rfl rfl rfl (by first | exact Nat.le_of_ble_eq_true rfl | (simp [Value.category, isR_cat kv_isR, isR_cat aref_isR]; done)) (Nat.le_refl _) (Nat.le_refl _) ?_
  refine gx_putI hC dX5_readEntry_17 fl_X5_66 (by first | exact gG.at213 | exact gG.at214) fn_4_6 rfl (up_R) ?_
  refine gx_aload_n (i := 0) hC dX5_readEntry_20 rfl rfl (by first | exact Or.inr ⟨_, rfl⟩ | exact Or.inl rfl | exact kv_isR | exact aref_isR) ?_
  refine gx_bipush (v := 64) hC dX5_readEntry_21 bp_64 ?_
  refine gx_callV0 hC dX5_readEntry_23 (c_X5_expect _ _ gG _) kY_X5_expect kV_X5_expect ml_X5_54 (by first | exact gG.at213 | exact gG.at214) rfl (by decide) rfl rfl rfl (by first | exact Nat.le_of_ble_eq_true rfl | (simp [Value.category, isR_cat kv_isR, isR_cat aref_isR]; done)) (Nat.le_refl _) (Nat.le_refl _) ?_
  refine gx_aload_n (i := 0) hC dX5_readEntry_26 rfl rfl (by first | exact Or.inr ⟨_, rfl⟩ | exact Or.inl rfl | exact kv_isR | exact aref_isR) ?_
  refine gx_aload_n (i := 0) hC dX5_readEntry_27 rfl rfl (by first | exact Or.inr ⟨_, rfl⟩ | exact Or.inl rfl | exact kv_isR | exact aref_isR) ?_
  refine gx_iconst (v := 0) hC dX5_readEntry_28 ic_0 ?_
  refine gx_bipush (v := 15) hC dX5_readEntry_29 bp_15 ?_
  refine gx_callV1 hC dX5_readEntry_31 (c_X5_readNumber _ _ gG _ _) kY_X5_readNumber kV_X5_readNumber ml_X5_43 (by first | exact gG.at213 | exact gG.at214) rfl (by decide) rfl rfl rfl (by first | exact Nat.le_of_ble_eq_true rfl | (simp [Value.category, isR_cat kv_isR, isR_cat aref_isR]; done)) (Nat.le_refl _) (Nat.le_refl _) ?_
  refine gx_putI hC dX5_readEntry_34 fl_X5_47 (by first | exact gG.at213 | exact gG.at214) fn_4_7 rfl (up_R) ?_
  exact gx_vret hC hQ dX5_readEntry_37 (rfl) rfl
def sSt1 (t s : Nat → Int32) : Nat → Int32 := upd (upd s 4 (sPk t s)) 2 (upd s 4 (sPk t s) 2 + 1)
def sSt2 (t g : Nat → Int32) : Nat → Int32 :=
  if g 4 = 43 then sEn t g else if g 4 = 99 then upd (sNm t g 0 19).2 7 (sNm t g 0 19).1 else if g 4 = 116 then upd (sNm t g 1 99).2 7 (sNm t g 1 99).1 else if g 4 = 111 ∨ g 4 = 120 then g else sFail g (g 2 - 1)
/-- one more strip: whether there was one without a fault, and the reader behind it -/
def sRd (t s : Nat → Int32) : Bool × (Nat → Int32) := if s 3 = -6 ∧ s 2 < s 1 then (decide (sExp t (sSt2 t (sSt1 t s)) 59 3 = -6), sExp t (sSt2 t (sSt1 t s)) 59) else (false, s)
theorem gx_lookup {z : hZt} {n0 n nm nL d pc : Nat} {X : hXt} {cc : ByteArray} {own : String} {M : hMem} {R : hRef} {L : List (Option Value)} {st : List Value} {x : Int32} (hC : hOk z n0 X cc own nL d nm) {dflt : Int} {ps : Array (Int × Int)} {len : Nat} {off : Int} {tgt : Nat} (hd : decode cc pc = .ok (.lookupswitch dflt ps, len)) (hp : (ps.toList.zip (ps.toList.drop 1)).all (fun (a, next) => a.1 < next.1) = true) (ho : Op.lookupswitch.offset ps.toList dflt x.toInt = off) (ht : (pc : Int) + off = (tgt : Int))
    (k : hG z n0 X n M R tgt L st) : hG z n0 X n M R pc L (.int x :: st) := fun H locs ls h1 h2 h3 => lv_lookup hC.1 hC.2.1 hd hp ho ht (k H locs ls h1 h2 h3)
theorem lks_t {a o d : Int} {r : List (Int × Int)} {x : Int} (h : x = a) : Op.lookupswitch.offset ((a, o) :: r) d x = o := by subst h; simp [Op.lookupswitch.offset]
theorem lks_f {a o d : Int} {r : List (Int × Int)} {x : Int} (h : ¬ x = a) : Op.lookupswitch.offset ((a, o) :: r) d x = Op.lookupswitch.offset r d x := by
  have h2 : ¬ a = x := fun q => h q.symm
  simp [Op.lookupswitch.offset, List.find?, h, h2]
theorem lks_n {d x : Int} : Op.lookupswitch.offset [] d x = d := by simp [Op.lookupswitch.offset]
def sRes (s : Nat → Int32) : Nat → Int32 := upd (upd s 2 0) 3 (-6)
set_option maxHeartbeats 4000000 in
set_option maxRecDepth 20000 in
theorem c_X5_restart (l : Launch) (z : hZt) {n : Nat} {M : hMem} {R : hRef} (gG : GS n R) {s : Nat → Int32} : hCt l z m_X5_restart [.ref (z.1 + 213)] n (putRow M 213 s) R n none (putRow M 213 (sRes s)) R := by
  refine hs_start [some (.ref (z.1 + 213))] (by decide +kernel) rfl (by intro u hu; simp at hu; subst hu <;> first | rfl | exact isR_cat kv_isR | exact isR_cat aref_isR) (Nat.le_of_ble_eq_true rfl) (Nat.le_refl _) (fun X hlX hN hC hQ => ?_)
  dsimp only at hC hQ
  refine gx_aload_n (i := 0) hC dX5_restart_0 rfl rfl (by first | exact Or.inr ⟨_, rfl⟩ | exact Or.inl rfl | exact kv_isR | exact aref_isR) ?_
  refine gx_iconst (v := 0) hC dX5_restart_1 ic_0 ?_
  refine gx_putI hC dX5_restart_2 fl_X5_22 (by first | exact gG.at213 | exact gG.at214) fn_4_2 rfl (up_R) ?_
  refine gx_aload_n (i := 0) hC dX5_restart_5 rfl rfl (by first | exact Or.inr ⟨_, rfl⟩ | exact Or.inl rfl | exact kv_isR | exact aref_isR) ?_
  refine gx_bipush (v := -6) hC dX5_restart_6 bp_m6 ?_
  refine gx_putI hC dX5_restart_8 fl_X5_15 (by first | exact gG.at213 | exact gG.at214) fn_4_3 rfl (up_R) ?_
  exact gx_vret hC hQ dX5_restart_11 (rfl) rfl
set_option maxHeartbeats 4000000 in
set_option maxRecDepth 20000 in
theorem c_X5_readStrip (l : Launch) (z : hZt) {n : Nat} {M : hMem} {R : hRef} (gG : GS n R) {s : Nat → Int32} : hCt l z m_X5_readStrip [.ref (z.1 + 213)] n (putRow M 213 s) R n (some (.int (b2 (sRd (M 214) s).1))) (putRow M 213 (sRd (M 214) s).2) R := by
  refine hs_start [some (.ref (z.1 + 213))] (by decide +kernel) rfl (by intro u hu; simp at hu; subst hu <;> first | rfl | exact isR_cat kv_isR | exact isR_cat aref_isR) (Nat.le_of_ble_eq_true rfl) (Nat.le_refl _) (fun X hlX hN hC hQ => ?_)
  dsimp only at hC hQ
  refine gx_wf (fun hwf0 => ?_)
  have hn5 := gG.big
  have hC14 : ∀ g, isC (sPk (M 214) g) := fun g => by
    have h9 := sPk_C (s := g) hwf0 hn5
    have e9 : putRow M 213 s 214 = M 214 := by funext k; exact pRo (by decide)
    rw [e9] at h9
    exact h9
  have join : ∀ g : Nat → Int32, sSt2 (M 214) (sSt1 (M 214) s) = g → s 3 = -6 ∧ s 2 < s 1 → hG z n X n (putRow M 213 g) R 144 [some (.ref (z.1 + 213))] [] := by
    intro g hg hs1
    refine gx_aload_n (i := 0) hC dX5_readStrip_144 rfl rfl (by first | exact Or.inr ⟨_, rfl⟩ | exact Or.inl rfl | exact kv_isR | exact aref_isR) ?_
    refine gx_bipush (v := 59) hC dX5_readStrip_145 bp_59 ?_
    refine gx_callV0 hC dX5_readStrip_147 (c_X5_expect _ _ gG _) kY_X5_expect kV_X5_expect ml_X5_54 (by first | exact gG.at213 | exact gG.at214) rfl (by decide) rfl rfl rfl (by first | exact Nat.le_of_ble_eq_true rfl | (simp [Value.category, isR_cat kv_isR, isR_cat aref_isR]; done)) (Nat.le_refl _) (Nat.le_refl _) ?_
    refine gx_aload_n (i := 0) hC dX5_readStrip_150 rfl rfl (by first | exact Or.inr ⟨_, rfl⟩ | exact Or.inl rfl | exact kv_isR | exact aref_isR) ?_
    refine gx_getI hC dX5_readStrip_151 fl_X5_15 (by first | exact gG.at213 | exact gG.at214) (by decide) (pRs) ?_
    refine gx_bipush (v := -6) hC dX5_readStrip_154 bp_m6 ?_
    refine gx_icmp_ne (tgt := 163) hC dX5_readStrip_156 (by decide) (fun c_156 => ?_) (fun c_156 => ?_)
    · refine gx_iconst (v := 0) hC dX5_readStrip_163 ic_0 ?_
      exact gx_zret hC hQ dX5_readStrip_164 (by first | exact Or.inl rfl | exact Or.inr rfl | exact b2_bit _ | assumption) ((by unfold sRd; rw [if_pos hs1, hg]; exact bv0 (decide_eq_false c_156))) (by unfold sRd; rw [if_pos hs1, hg]) rfl
    · refine gx_iconst (v := 1) hC dX5_readStrip_159 ic_1 ?_
      refine gx_goto (tgt := 164) hC dX5_readStrip_160 (by decide) ?_
      exact gx_zret hC hQ dX5_readStrip_164 (by first | exact Or.inl rfl | exact Or.inr rfl | exact b2_bit _ | assumption) ((by unfold sRd; rw [if_pos hs1, hg]; exact bv1 (decide_eq_true c_156))) (by unfold sRd; rw [if_pos hs1, hg]) rfl
  refine gx_aload_n (i := 0) hC dX5_readStrip_0 rfl rfl (by first | exact Or.inr ⟨_, rfl⟩ | exact Or.inl rfl | exact kv_isR | exact aref_isR) ?_
  refine gx_getI hC dX5_readStrip_1 fl_X5_15 (by first | exact gG.at213 | exact gG.at214) (by decide) (pRs) ?_
  refine gx_bipush (v := -6) hC dX5_readStrip_4 bp_m6 ?_
  refine gx_icmp_ne (tgt := 20) hC dX5_readStrip_6 (by decide) (fun c_6 => ?_) (fun c_6 => ?_)
  · refine gx_iconst (v := 0) hC dX5_readStrip_20 ic_0 ?_
    exact gx_zret hC hQ dX5_readStrip_21 (by first | exact Or.inl rfl | exact Or.inr rfl | exact b2_bit _ | assumption) ((by unfold sRd; rw [if_neg (fun q => c_6 q.1)]; rfl)) ((by unfold sRd; rw [if_neg (fun q => c_6 q.1)])) rfl
  · refine gx_aload_n (i := 0) hC dX5_readStrip_9 rfl rfl (by first | exact Or.inr ⟨_, rfl⟩ | exact Or.inl rfl | exact kv_isR | exact aref_isR) ?_
    refine gx_getI hC dX5_readStrip_10 fl_X5_22 (by first | exact gG.at213 | exact gG.at214) (by decide) (pRs) ?_
    refine gx_aload_n (i := 0) hC dX5_readStrip_13 rfl rfl (by first | exact Or.inr ⟨_, rfl⟩ | exact Or.inl rfl | exact kv_isR | exact aref_isR) ?_
    refine gx_getI hC dX5_readStrip_14 fl_X5_19 (by first | exact gG.at213 | exact gG.at214) (by decide) (pRs) ?_
    refine gx_icmp_lt (tgt := 22) hC dX5_readStrip_17 (by decide) (fun c_17 => ?_) (fun c_17 => ?_)
    · refine gx_aload_n (i := 0) hC dX5_readStrip_22 rfl rfl (by first | exact Or.inr ⟨_, rfl⟩ | exact Or.inl rfl | exact kv_isR | exact aref_isR) ?_
      refine gx_aload_n (i := 0) hC dX5_readStrip_23 rfl rfl (by first | exact Or.inr ⟨_, rfl⟩ | exact Or.inl rfl | exact kv_isR | exact aref_isR) ?_
      refine gx_callV1 hC dX5_readStrip_24 (c_X5_peek _ _ gG) kY_X5_peek kV_X5_peek ml_X5_32 (by first | exact gG.at213 | exact gG.at214) rfl (by decide) rfl rfl rfl (by first | exact Nat.le_of_ble_eq_true rfl | (simp [Value.category, isR_cat kv_isR, isR_cat aref_isR]; done)) (Nat.le_refl _) (Nat.le_refl _) ?_
      refine gx_putC hC dX5_readStrip_27 fl_X5_36 (by first | exact gG.at213 | exact gG.at214) fn_4_4 rfl (by exact hC14 _) (up_R) ?_
      refine gx_aload_n (i := 0) hC dX5_readStrip_30 rfl rfl (by first | exact Or.inr ⟨_, rfl⟩ | exact Or.inl rfl | exact kv_isR | exact aref_isR) ?_
      refine gx_dup hC dX5_readStrip_31 (by first | rfl | exact isR_cat kv_isR | exact isR_cat aref_isR) ?_
      refine gx_getI hC dX5_readStrip_32 fl_X5_22 (by first | exact gG.at213 | exact gG.at214) (by decide) (pRs) ?_
      refine gx_iconst (v := 1) hC dX5_readStrip_35 ic_1 ?_
      refine gx_iadd hC dX5_readStrip_36 ?_
      refine gx_putI hC dX5_readStrip_37 fl_X5_22 (by first | exact gG.at213 | exact gG.at214) fn_4_2 rfl (up_R) ?_
      refine gx_aload_n (i := 0) hC dX5_readStrip_40 rfl rfl (by first | exact Or.inr ⟨_, rfl⟩ | exact Or.inl rfl | exact kv_isR | exact aref_isR) ?_
      refine gx_getC hC dX5_readStrip_41 fl_X5_36 (by first | exact gG.at213 | exact gG.at214) rfl (show _ = sSt1 (M 214) s 4 from pRs) (fun hz_41 => ?_)
      have hcond : s 3 = -6 ∧ s 2 < s 1 := ⟨c_6, c_17⟩
      change hG z n X n (putRow M 213 (sSt1 (M 214) s)) R _ _ [.int (sSt1 (M 214) s 4)]
      clear hz_41
      revert join
      generalize sSt1 (M 214) s = g
      intro join
      by_cases q43 : g 4 = 43
      · refine gx_lookup (tgt := 96) hC dX5_readStrip_44 (by decide) (by rw [show Op.lookupswitch.offset _ _ _ = Op.lookupswitch.offset [(43, 52), (99, 59), (111, 87), (116, 73), (120, 87)] 90 (g 4).toInt from rfl, lks_t (a := 43) (by rw [q43]; rfl)]) (by decide) ?_
        refine gx_aload_n (i := 0) hC dX5_readStrip_96 rfl rfl (by first | exact Or.inr ⟨_, rfl⟩ | exact Or.inl rfl | exact kv_isR | exact aref_isR) ?_
        refine gx_callV0 hC dX5_readStrip_97 (c_X5_readEntry _ _ gG) kY_X5_readEntry kV_X5_readEntry ml_X5_40 (by first | exact gG.at213 | exact gG.at214) rfl (by decide) rfl rfl rfl (by first | exact Nat.le_of_ble_eq_true rfl | (simp [Value.category, isR_cat kv_isR, isR_cat aref_isR]; done)) (Nat.le_refl _) (Nat.le_refl _) ?_
        refine gx_goto (tgt := 144) hC dX5_readStrip_100 (by decide) ?_
        exact join _ (by unfold sSt2; rw [if_pos q43]) hcond
      by_cases q99 : g 4 = 99
      · refine gx_lookup (tgt := 103) hC dX5_readStrip_44 (by decide) (by rw [show Op.lookupswitch.offset _ _ _ = Op.lookupswitch.offset [(43, 52), (99, 59), (111, 87), (116, 73), (120, 87)] 90 (g 4).toInt from rfl, lv_osw (a := 43) q43 (by decide), lks_t (a := 99) (by rw [q99]; rfl)]) (by decide) ?_
        refine gx_aload_n (i := 0) hC dX5_readStrip_103 rfl rfl (by first | exact Or.inr ⟨_, rfl⟩ | exact Or.inl rfl | exact kv_isR | exact aref_isR) ?_
        refine gx_aload_n (i := 0) hC dX5_readStrip_104 rfl rfl (by first | exact Or.inr ⟨_, rfl⟩ | exact Or.inl rfl | exact kv_isR | exact aref_isR) ?_
        refine gx_iconst (v := 0) hC dX5_readStrip_105 ic_0 ?_
        refine gx_bipush (v := 19) hC dX5_readStrip_106 bp_19 ?_
        refine gx_callV1 hC dX5_readStrip_108 (c_X5_readNumber _ _ gG _ _) kY_X5_readNumber kV_X5_readNumber ml_X5_43 (by first | exact gG.at213 | exact gG.at214) rfl (by decide) rfl rfl rfl (by first | exact Nat.le_of_ble_eq_true rfl | (simp [Value.category, isR_cat kv_isR, isR_cat aref_isR]; done)) (Nat.le_refl _) (Nat.le_refl _) ?_
        refine gx_putI hC dX5_readStrip_111 fl_X5_47 (by first | exact gG.at213 | exact gG.at214) fn_4_7 rfl (up_R) ?_
        refine gx_goto (tgt := 144) hC dX5_readStrip_114 (by decide) ?_
        exact join _ (by unfold sSt2; rw [if_neg q43, if_pos q99]) hcond
      by_cases q111 : g 4 = 111
      · refine gx_lookup (tgt := 131) hC dX5_readStrip_44 (by decide) (by rw [show Op.lookupswitch.offset _ _ _ = Op.lookupswitch.offset [(43, 52), (99, 59), (111, 87), (116, 73), (120, 87)] 90 (g 4).toInt from rfl, lv_osw (a := 43) q43 (by decide), lv_osw (a := 99) q99 (by decide), lks_t (a := 111) (by rw [q111]; rfl)]) (by decide) ?_
        refine gx_goto (tgt := 144) hC dX5_readStrip_131 (by decide) ?_
        exact join _ (by unfold sSt2; rw [if_neg q43, if_neg q99, if_neg (by rw [q111]; decide), if_pos (Or.inl q111)]) hcond
      by_cases q116 : g 4 = 116
      · refine gx_lookup (tgt := 117) hC dX5_readStrip_44 (by decide) (by rw [show Op.lookupswitch.offset _ _ _ = Op.lookupswitch.offset [(43, 52), (99, 59), (111, 87), (116, 73), (120, 87)] 90 (g 4).toInt from rfl, lv_osw (a := 43) q43 (by decide), lv_osw (a := 99) q99 (by decide), lv_osw (a := 111) q111 (by decide), lks_t (a := 116) (by rw [q116]; rfl)]) (by decide) ?_
        refine gx_aload_n (i := 0) hC dX5_readStrip_117 rfl rfl (by first | exact Or.inr ⟨_, rfl⟩ | exact Or.inl rfl | exact kv_isR | exact aref_isR) ?_
        refine gx_aload_n (i := 0) hC dX5_readStrip_118 rfl rfl (by first | exact Or.inr ⟨_, rfl⟩ | exact Or.inl rfl | exact kv_isR | exact aref_isR) ?_
        refine gx_iconst (v := 1) hC dX5_readStrip_119 ic_1 ?_
        refine gx_bipush (v := 99) hC dX5_readStrip_120 bp_99 ?_
        refine gx_callV1 hC dX5_readStrip_122 (c_X5_readNumber _ _ gG _ _) kY_X5_readNumber kV_X5_readNumber ml_X5_43 (by first | exact gG.at213 | exact gG.at214) rfl (by decide) rfl rfl rfl (by first | exact Nat.le_of_ble_eq_true rfl | (simp [Value.category, isR_cat kv_isR, isR_cat aref_isR]; done)) (Nat.le_refl _) (Nat.le_refl _) ?_
        refine gx_putI hC dX5_readStrip_125 fl_X5_47 (by first | exact gG.at213 | exact gG.at214) fn_4_7 rfl (up_R) ?_
        refine gx_goto (tgt := 144) hC dX5_readStrip_128 (by decide) ?_
        exact join _ (by unfold sSt2; rw [if_neg q43, if_neg q99, if_pos q116]) hcond
      by_cases q120 : g 4 = 120
      · refine gx_lookup (tgt := 131) hC dX5_readStrip_44 (by decide) (by rw [show Op.lookupswitch.offset _ _ _ = Op.lookupswitch.offset [(43, 52), (99, 59), (111, 87), (116, 73), (120, 87)] 90 (g 4).toInt from rfl, lv_osw (a := 43) q43 (by decide), lv_osw (a := 99) q99 (by decide), lv_osw (a := 111) q111 (by decide), lv_osw (a := 116) q116 (by decide), lks_t (a := 120) (by rw [q120]; rfl)]) (by decide) ?_
        refine gx_goto (tgt := 144) hC dX5_readStrip_131 (by decide) ?_
        exact join _ (by unfold sSt2; rw [if_neg q43, if_neg q99, if_neg q116, if_pos (Or.inr q120)]) hcond
      refine gx_lookup (tgt := 134) hC dX5_readStrip_44 (by decide) (by rw [show Op.lookupswitch.offset _ _ _ = Op.lookupswitch.offset [(43, 52), (99, 59), (111, 87), (116, 73), (120, 87)] 90 (g 4).toInt from rfl, lv_osw (a := 43) q43 (by decide), lv_osw (a := 99) q99 (by decide), lv_osw (a := 111) q111 (by decide), lv_osw (a := 116) q116 (by decide), lv_osw (a := 120) q120 (by decide), lks_n]) (by decide) ?_
      refine gx_aload_n (i := 0) hC dX5_readStrip_134 rfl rfl (by first | exact Or.inr ⟨_, rfl⟩ | exact Or.inl rfl | exact kv_isR | exact aref_isR) ?_
      refine gx_aload_n (i := 0) hC dX5_readStrip_135 rfl rfl (by first | exact Or.inr ⟨_, rfl⟩ | exact Or.inl rfl | exact kv_isR | exact aref_isR) ?_
      refine gx_getI hC dX5_readStrip_136 fl_X5_22 (by first | exact gG.at213 | exact gG.at214) (by decide) (pRs) ?_
      refine gx_iconst (v := 1) hC dX5_readStrip_139 ic_1 ?_
      refine gx_isub hC dX5_readStrip_140 ?_
      refine gx_callV0 hC dX5_readStrip_141 (c_X5_fail _ _ gG _) kY_X5_fail kV_X5_fail ml_X5_50 (by first | exact gG.at213 | exact gG.at214) rfl (by decide) rfl rfl rfl (by first | exact Nat.le_of_ble_eq_true rfl | (simp [Value.category, isR_cat kv_isR, isR_cat aref_isR]; done)) (Nat.le_refl _) (Nat.le_refl _) ?_
      exact join _ (by unfold sSt2; rw [if_neg q43, if_neg q99, if_neg q116, if_neg (fun q => q.elim q111 q120)]) hcond
    · refine gx_iconst (v := 0) hC dX5_readStrip_20 ic_0 ?_
      exact gx_zret hC hQ dX5_readStrip_21 (by first | exact Or.inl rfl | exact Or.inr rfl | exact b2_bit _ | assumption) ((by unfold sRd; rw [if_neg (fun q => absurd q.2 c_17)]; rfl)) ((by unfold sRd; rw [if_neg (fun q => absurd q.2 c_17)])) rfl
