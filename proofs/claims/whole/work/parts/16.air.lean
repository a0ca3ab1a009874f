def iMin (a b : Int32) : Int32 := if b < a then b else a
theorem gx_mmin {z : hZt} {n0 n nm nL d pc idx : Nat} {X : hXt} {cc : ByteArray} {own : String} {M : hMem} {R : hRef} {L : List (Option Value)} {st : List Value} {x y : Int32} (hC : hOk z n0 X cc own nL d nm) (hd : decode cc pc = .ok (.invokestatic idx, 3)) (hl : Cond.methodLink own idx yJ9_min_7cf53 ∈ hgd) (hdp : 1 ≤ d) (hL : L.length = nL) (hcat : (st.map fun v => v.category).sum ≤ 8) (hnm : n ≤ nm)
    (kk : hG z n0 X n M R (pc + 3) L (.int (iMin x y) :: st)) : hG z n0 X n M R pc L (.int y :: .int x :: st) := by
  intro H locs ls h1 h2 h3
  have a1 := hC.2.2.2.2.2.2.1
  have a2 := hC.2.2.2.2.2.2.2.1
  have h0 := hn_le hC h1 h2
  have a3 := slt_mono h0
  have a4 := slt_mono hnm
  have a5 := hC.2.2.2.2.2.2.2.2.2.2.1
  have a6 := hC.2.2.2.2.2.2.2.2.2.2.2
  exact va_mmin hC.1 hC.2.1 (by rw [h3.1, hL, hC.2.2.1]) hC.2.2.2.1 (hC.2.2.2.2.1 _ hl) (hC.2.2.2.2.1 _ (hgd_at 431 (by decide +kernel) rfl)) (hC.2.2.2.2.1 _ (hgd_at 68 (by decide +kernel) rfl)) (hC.2.2.2.2.1 _ (hgd_at 432 (by decide +kernel) rfl)) (by omega) (by omega) (by omega) (by omega) hd (kk H locs ls h1 h2 h3)
def aBurn (k l : Int32) : Int32 := kRate k - kRate k * l / 40
theorem b2_t : b2 true = 1 := rfl
theorem bv1 {e : Bool} (h : e = true) : some (Value.int 1) = some (Value.int (b2 e)) := by rw [h]; rfl
theorem bv0 {e : Bool} (h : e = false) : some (Value.int 0) = some (Value.int (b2 e)) := by rw [h]; rfl
theorem kf_0 {x : Int32} : kFld 0 x = x := rfl
theorem kf_1 {x : Int32} : kFld 1 x = kRate x := rfl
theorem kf_2 {x : Int32} : kFld 2 x = kRes x := rfl
theorem kf_3 {x : Int32} : kFld 3 x = kWake x := rfl
theorem i32c_0 : ((0 : Int32)).toInt = 0 := by decide
theorem i32c_1 : ((1 : Int32)).toInt = 1 := by decide
theorem i32c_2 : ((2 : Int32)).toInt = 2 := by decide
theorem i32c_3 : ((3 : Int32)).toInt = 3 := by decide
theorem i32c_4 : ((4 : Int32)).toInt = 4 := by decide
theorem i32c_5 : ((5 : Int32)).toInt = 5 := by decide
theorem i32c_6 : ((6 : Int32)).toInt = 6 := by decide
theorem i32c_7 : ((7 : Int32)).toInt = 7 := by decide
theorem i32c_8 : ((8 : Int32)).toInt = 8 := by decide
theorem i32c_9 : ((9 : Int32)).toInt = 9 := by decide
theorem i32c_16 : ((16 : Int32)).toInt = 16 := by decide
theorem i32c_20 : ((20 : Int32)).toInt = 20 := by decide
theorem i32c_99 : ((99 : Int32)).toInt = 99 := by decide
theorem i32c_m1 : ((-1 : Int32)).toInt = -1 := by decide
theorem i32c_m6 : ((-6 : Int32)).toInt = -6 := by decide
theorem ni_0 : (nI 0).toInt = 0 := by decide
theorem ni_2 : (nI 2).toInt = 2 := by decide
theorem ni_5 : (nI 5).toInt = 5 := by decide
theorem ni_16 : (nI 16).toInt = 16 := by decide
theorem ni_20 : (nI 20).toInt = 20 := by decide
theorem ni_80 : (nI 80).toInt = 80 := by decide
theorem b2_f : b2 false = 0 := rfl
set_option maxHeartbeats 4000000 in
set_option maxRecDepth 20000 in
theorem c_X0_isHolding (l : Launch) (z : hZt) {n : Nat} {M : hMem} {R : hRef} {i : Nat} (ha : hAt n i (0, 0)) : hCt l z m_X0_isHolding [.ref (z.1 + i)] n M R n (some (.int (b2 (decide (M i 3 = 0))))) M R := by
  refine hs_start [some (.ref (z.1 + i))] (by decide +kernel) rfl (by intro u hu; simp at hu; subst hu <;> first | rfl | exact isR_cat kv_isR | exact isR_cat aref_isR) (Nat.le_of_ble_eq_true rfl) (Nat.le_refl _) (fun X hlX hN hC hQ => ?_)
  dsimp only at hC hQ
  refine gx_aload_n (i := 0) hC dX0_isHolding_0 rfl rfl (by first | exact Or.inr ⟨_, rfl⟩ | exact Or.inl rfl | exact kv_isR | exact aref_isR) ?_
  refine gx_getI hC dX0_isHolding_1 fl_X0_27 (by assumption) (by decide) (rfl) ?_
  refine gx_if_ne (tgt := 11) hC dX0_isHolding_4 (by decide) (fun c_4 => ?_) (fun c_4 => ?_)
  · refine gx_iconst (v := 0) hC dX0_isHolding_11 ic_0 ?_
    exact gx_zret hC hQ dX0_isHolding_12 (by first | exact Or.inl rfl | exact Or.inr rfl | exact b2_bit _ | assumption) (by first | exact bv1 (decide_eq_true (by (clear hQ hC hN hlX; simp only [Int32.le_iff_toInt_le, Int32.lt_iff_toInt_lt, Int32.not_le, Int32.not_lt, ← Int32.toInt_inj, i32c_0, i32c_1, i32c_2, i32c_3, i32c_4, i32c_5, i32c_6, i32c_7, i32c_8, i32c_9, i32c_16, i32c_20, i32c_99, i32c_m1, i32c_m6, ni_16, ni_20, ni_80, ni_2, ni_5, ni_0, ne_eq] at *; omega))) | exact bv0 (decide_eq_false (by (clear hQ hC hN hlX; simp only [Int32.le_iff_toInt_le, Int32.lt_iff_toInt_lt, Int32.not_le, Int32.not_lt, ← Int32.toInt_inj, i32c_0, i32c_1, i32c_2, i32c_3, i32c_4, i32c_5, i32c_6, i32c_7, i32c_8, i32c_9, i32c_16, i32c_20, i32c_99, i32c_m1, i32c_m6, ni_16, ni_20, ni_80, ni_2, ni_5, ni_0, ne_eq] at *; omega)))) (rfl) rfl
  · refine gx_iconst (v := 1) hC dX0_isHolding_7 ic_1 ?_
    refine gx_goto (tgt := 12) hC dX0_isHolding_8 (by decide) ?_
    exact gx_zret hC hQ dX0_isHolding_12 (by first | exact Or.inl rfl | exact Or.inr rfl | exact b2_bit _ | assumption) (by first | exact bv1 (decide_eq_true (by (clear hQ hC hN hlX; simp only [Int32.le_iff_toInt_le, Int32.lt_iff_toInt_lt, Int32.not_le, Int32.not_lt, ← Int32.toInt_inj, i32c_0, i32c_1, i32c_2, i32c_3, i32c_4, i32c_5, i32c_6, i32c_7, i32c_8, i32c_9, i32c_16, i32c_20, i32c_99, i32c_m1, i32c_m6, ni_16, ni_20, ni_80, ni_2, ni_5, ni_0, ne_eq] at *; omega))) | exact bv0 (decide_eq_false (by (clear hQ hC hN hlX; simp only [Int32.le_iff_toInt_le, Int32.lt_iff_toInt_lt, Int32.not_le, Int32.not_lt, ← Int32.toInt_inj, i32c_0, i32c_1, i32c_2, i32c_3, i32c_4, i32c_5, i32c_6, i32c_7, i32c_8, i32c_9, i32c_16, i32c_20, i32c_99, i32c_m1, i32c_m6, ni_16, ni_20, ni_80, ni_2, ni_5, ni_0, ne_eq] at *; omega)))) (rfl) rfl
set_option maxHeartbeats 4000000 in
set_option maxRecDepth 20000 in
theorem c_X0_isOverFix (l : Launch) (z : hZt) {n : Nat} {M : hMem} {R : hRef} {i : Nat} (ha : hAt n i (0, 0)) : hCt l z m_X0_isOverFix [.ref (z.1 + i)] n M R n (some (.int (b2 (decide (M i 5 = 0))))) M R := by
  refine hs_start [some (.ref (z.1 + i))] (by decide +kernel) rfl (by intro u hu; simp at hu; subst hu <;> first | rfl | exact isR_cat kv_isR | exact isR_cat aref_isR) (Nat.le_of_ble_eq_true rfl) (Nat.le_refl _) (fun X hlX hN hC hQ => ?_)
  dsimp only at hC hQ
  refine gx_aload_n (i := 0) hC dX0_isOverFix_0 rfl rfl (by first | exact Or.inr ⟨_, rfl⟩ | exact Or.inl rfl | exact kv_isR | exact aref_isR) ?_
  refine gx_getI hC dX0_isOverFix_1 fl_X0_33 (by assumption) (by decide) (rfl) ?_
  refine gx_if_ne (tgt := 11) hC dX0_isOverFix_4 (by decide) (fun c_4 => ?_) (fun c_4 => ?_)
  · refine gx_iconst (v := 0) hC dX0_isOverFix_11 ic_0 ?_
    exact gx_zret hC hQ dX0_isOverFix_12 (by first | exact Or.inl rfl | exact Or.inr rfl | exact b2_bit _ | assumption) (by first | exact bv1 (decide_eq_true (by (clear hQ hC hN hlX; simp only [Int32.le_iff_toInt_le, Int32.lt_iff_toInt_lt, Int32.not_le, Int32.not_lt, ← Int32.toInt_inj, i32c_0, i32c_1, i32c_2, i32c_3, i32c_4, i32c_5, i32c_6, i32c_7, i32c_8, i32c_9, i32c_16, i32c_20, i32c_99, i32c_m1, i32c_m6, ni_16, ni_20, ni_80, ni_2, ni_5, ni_0, ne_eq] at *; omega))) | exact bv0 (decide_eq_false (by (clear hQ hC hN hlX; simp only [Int32.le_iff_toInt_le, Int32.lt_iff_toInt_lt, Int32.not_le, Int32.not_lt, ← Int32.toInt_inj, i32c_0, i32c_1, i32c_2, i32c_3, i32c_4, i32c_5, i32c_6, i32c_7, i32c_8, i32c_9, i32c_16, i32c_20, i32c_99, i32c_m1, i32c_m6, ni_16, ni_20, ni_80, ni_2, ni_5, ni_0, ne_eq] at *; omega)))) (rfl) rfl
  · refine gx_iconst (v := 1) hC dX0_isOverFix_7 ic_1 ?_
    refine gx_goto (tgt := 12) hC dX0_isOverFix_8 (by decide) ?_
    exact gx_zret hC hQ dX0_isOverFix_12 (by first | exact Or.inl rfl | exact Or.inr rfl | exact b2_bit _ | assumption) (by first | exact bv1 (decide_eq_true (by (clear hQ hC hN hlX; simp only [Int32.le_iff_toInt_le, Int32.lt_iff_toInt_lt, Int32.not_le, Int32.not_lt, ← Int32.toInt_inj, i32c_0, i32c_1, i32c_2, i32c_3, i32c_4, i32c_5, i32c_6, i32c_7, i32c_8, i32c_9, i32c_16, i32c_20, i32c_99, i32c_m1, i32c_m6, ni_16, ni_20, ni_80, ni_2, ni_5, ni_0, ne_eq] at *; omega))) | exact bv0 (decide_eq_false (by (clear hQ hC hN hlX; simp only [Int32.le_iff_toInt_le, Int32.lt_iff_toInt_lt, Int32.not_le, Int32.not_lt, ← Int32.toInt_inj, i32c_0, i32c_1, i32c_2, i32c_3, i32c_4, i32c_5, i32c_6, i32c_7, i32c_8, i32c_9, i32c_16, i32c_20, i32c_99, i32c_m1, i32c_m6, ni_16, ni_20, ni_80, ni_2, ni_5, ni_0, ne_eq] at *; omega)))) (rfl) rfl
set_option maxHeartbeats 4000000 in
set_option maxRecDepth 20000 in
theorem c_X0_isShort (l : Launch) (z : hZt) {n : Nat} {M : hMem} {R : hRef} {i : Nat} (ha : hAt n i (0, 0)) (hk1 : hk (M i 1)) : hCt l z m_X0_isShort [.ref (z.1 + i)] n M R n (some (.int (b2 (decide (M i 2 ≤ kRes (M i 1)))))) M R := by
  refine hs_start [some (.ref (z.1 + i))] (by decide +kernel) rfl (by intro u hu; simp at hu; subst hu <;> first | rfl | exact isR_cat kv_isR | exact isR_cat aref_isR) (Nat.le_of_ble_eq_true rfl) (Nat.le_refl _) (fun X hlX hN hC hQ => ?_)
  dsimp only at hC hQ
  refine gx_aload_n (i := 0) hC dX0_isShort_0 rfl rfl (by first | exact Or.inr ⟨_, rfl⟩ | exact Or.inl rfl | exact kv_isR | exact aref_isR) ?_
  refine gx_getI hC dX0_isShort_1 fl_X0_24 (by assumption) (by decide) (rfl) ?_
  refine gx_aload_n (i := 0) hC dX0_isShort_4 rfl rfl (by first | exact Or.inr ⟨_, rfl⟩ | exact Or.inl rfl | exact kv_isR | exact aref_isR) ?_
  refine gx_getE hC dX0_isShort_5 fl_X0_15 (by assumption) rfl (rfl) ?_
  refine gx_getK hC dX0_isShort_8 2 (by decide) fl_X0_43 (by assumption) kf_2 ?_
  refine gx_icmp_gt (tgt := 18) hC dX0_isShort_11 (by decide) (fun c_11 => ?_) (fun c_11 => ?_)
  · refine gx_iconst (v := 0) hC dX0_isShort_18 ic_0 ?_
    exact gx_zret hC hQ dX0_isShort_19 (by first | exact Or.inl rfl | exact Or.inr rfl | exact b2_bit _ | assumption) (by first | exact bv1 (decide_eq_true (by (clear hQ hC hN hlX; simp only [Int32.le_iff_toInt_le, Int32.lt_iff_toInt_lt, Int32.not_le, Int32.not_lt, ← Int32.toInt_inj, i32c_0, i32c_1, i32c_2, i32c_3, i32c_4, i32c_5, i32c_6, i32c_7, i32c_8, i32c_9, i32c_16, i32c_20, i32c_99, i32c_m1, i32c_m6, ni_16, ni_20, ni_80, ni_2, ni_5, ni_0, ne_eq] at *; omega))) | exact bv0 (decide_eq_false (by (clear hQ hC hN hlX; simp only [Int32.le_iff_toInt_le, Int32.lt_iff_toInt_lt, Int32.not_le, Int32.not_lt, ← Int32.toInt_inj, i32c_0, i32c_1, i32c_2, i32c_3, i32c_4, i32c_5, i32c_6, i32c_7, i32c_8, i32c_9, i32c_16, i32c_20, i32c_99, i32c_m1, i32c_m6, ni_16, ni_20, ni_80, ni_2, ni_5, ni_0, ne_eq] at *; omega)))) (rfl) rfl
  · refine gx_iconst (v := 1) hC dX0_isShort_14 ic_1 ?_
    refine gx_goto (tgt := 19) hC dX0_isShort_15 (by decide) ?_
    exact gx_zret hC hQ dX0_isShort_19 (by first | exact Or.inl rfl | exact Or.inr rfl | exact b2_bit _ | assumption) (by first | exact bv1 (decide_eq_true (by (clear hQ hC hN hlX; simp only [Int32.le_iff_toInt_le, Int32.lt_iff_toInt_lt, Int32.not_le, Int32.not_lt, ← Int32.toInt_inj, i32c_0, i32c_1, i32c_2, i32c_3, i32c_4, i32c_5, i32c_6, i32c_7, i32c_8, i32c_9, i32c_16, i32c_20, i32c_99, i32c_m1, i32c_m6, ni_16, ni_20, ni_80, ni_2, ni_5, ni_0, ne_eq] at *; omega))) | exact bv0 (decide_eq_false (by (clear hQ hC hN hlX; simp only [Int32.le_iff_toInt_le, Int32.lt_iff_toInt_lt, Int32.not_le, Int32.not_lt, ← Int32.toInt_inj, i32c_0, i32c_1, i32c_2, i32c_3, i32c_4, i32c_5, i32c_6, i32c_7, i32c_8, i32c_9, i32c_16, i32c_20, i32c_99, i32c_m1, i32c_m6, ni_16, ni_20, ni_80, ni_2, ni_5, ni_0, ne_eq] at *; omega)))) (rfl) rfl
set_option maxHeartbeats 4000000 in
set_option maxRecDepth 20000 in
theorem c_X0_mustDivert (l : Launch) (z : hZt) {n : Nat} {M : hMem} {R : hRef} {i : Nat} (ha : hAt n i (0, 0)) (hk1 : hk (M i 1)) : hCt l z m_X0_mustDivert [.ref (z.1 + i)] n M R n (some (.int (b2 (decide (2 * M i 2 < kRes (M i 1)))))) M R := by
  refine hs_start [some (.ref (z.1 + i))] (by decide +kernel) rfl (by intro u hu; simp at hu; subst hu <;> first | rfl | exact isR_cat kv_isR | exact isR_cat aref_isR) (Nat.le_of_ble_eq_true rfl) (Nat.le_refl _) (fun X hlX hN hC hQ => ?_)
  dsimp only at hC hQ
  refine gx_iconst (v := 2) hC dX0_mustDivert_0 ic_2 ?_
  refine gx_aload_n (i := 0) hC dX0_mustDivert_1 rfl rfl (by first | exact Or.inr ⟨_, rfl⟩ | exact Or.inl rfl | exact kv_isR | exact aref_isR) ?_
  refine gx_getI hC dX0_mustDivert_2 fl_X0_24 (by assumption) (by decide) (rfl) ?_
  refine gx_imul hC dX0_mustDivert_5 ?_
  refine gx_aload_n (i := 0) hC dX0_mustDivert_6 rfl rfl (by first | exact Or.inr ⟨_, rfl⟩ | exact Or.inl rfl | exact kv_isR | exact aref_isR) ?_
  refine gx_getE hC dX0_mustDivert_7 fl_X0_15 (by assumption) rfl (rfl) ?_
  refine gx_getK hC dX0_mustDivert_10 2 (by decide) fl_X0_43 (by assumption) kf_2 ?_
  refine gx_icmp_ge (tgt := 20) hC dX0_mustDivert_13 (by decide) (fun c_13 => ?_) (fun c_13 => ?_)
  · refine gx_iconst (v := 0) hC dX0_mustDivert_20 ic_0 ?_
    exact gx_zret hC hQ dX0_mustDivert_21 (by first | exact Or.inl rfl | exact Or.inr rfl | exact b2_bit _ | assumption) (by first | exact bv1 (decide_eq_true (by (clear hQ hC hN hlX; simp only [Int32.le_iff_toInt_le, Int32.lt_iff_toInt_lt, Int32.not_le, Int32.not_lt, ← Int32.toInt_inj, i32c_0, i32c_1, i32c_2, i32c_3, i32c_4, i32c_5, i32c_6, i32c_7, i32c_8, i32c_9, i32c_16, i32c_20, i32c_99, i32c_m1, i32c_m6, ni_16, ni_20, ni_80, ni_2, ni_5, ni_0, ne_eq] at *; omega))) | exact bv0 (decide_eq_false (by (clear hQ hC hN hlX; simp only [Int32.le_iff_toInt_le, Int32.lt_iff_toInt_lt, Int32.not_le, Int32.not_lt, ← Int32.toInt_inj, i32c_0, i32c_1, i32c_2, i32c_3, i32c_4, i32c_5, i32c_6, i32c_7, i32c_8, i32c_9, i32c_16, i32c_20, i32c_99, i32c_m1, i32c_m6, ni_16, ni_20, ni_80, ni_2, ni_5, ni_0, ne_eq] at *; omega)))) (rfl) rfl
  · refine gx_iconst (v := 1) hC dX0_mustDivert_16 ic_1 ?_
    refine gx_goto (tgt := 21) hC dX0_mustDivert_17 (by decide) ?_
    exact gx_zret hC hQ dX0_mustDivert_21 (by first | exact Or.inl rfl | exact Or.inr rfl | exact b2_bit _ | assumption) (by first | exact bv1 (decide_eq_true (by (clear hQ hC hN hlX; simp only [Int32.le_iff_toInt_le, Int32.lt_iff_toInt_lt, Int32.not_le, Int32.not_lt, ← Int32.toInt_inj, i32c_0, i32c_1, i32c_2, i32c_3, i32c_4, i32c_5, i32c_6, i32c_7, i32c_8, i32c_9, i32c_16, i32c_20, i32c_99, i32c_m1, i32c_m6, ni_16, ni_20, ni_80, ni_2, ni_5, ni_0, ne_eq] at *; omega))) | exact bv0 (decide_eq_false (by (clear hQ hC hN hlX; simp only [Int32.le_iff_toInt_le, Int32.lt_iff_toInt_lt, Int32.not_le, Int32.not_lt, ← Int32.toInt_inj, i32c_0, i32c_1, i32c_2, i32c_3, i32c_4, i32c_5, i32c_6, i32c_7, i32c_8, i32c_9, i32c_16, i32c_20, i32c_99, i32c_m1, i32c_m6, ni_16, ni_20, ni_80, ni_2, ni_5, ni_0, ne_eq] at *; omega)))) (rfl) rfl
set_option maxHeartbeats 4000000 in
set_option maxRecDepth 20000 in
theorem c_X0_burnPerMinute (l : Launch) (z : hZt) {n : Nat} {M : hMem} {R : hRef} {i : Nat} (ha : hAt n i (0, 0)) (hk1 : hk (M i 1)) : hCt l z m_X0_burnPerMinute [.ref (z.1 + i)] n M R n (some (.int (aBurn (M i 1) (M i 4)))) M R := by
  refine hs_start [some (.ref (z.1 + i))] (by decide +kernel) rfl (by intro u hu; simp at hu; subst hu <;> first | rfl | exact isR_cat kv_isR | exact isR_cat aref_isR) (Nat.le_of_ble_eq_true rfl) (Nat.le_refl _) (fun X hlX hN hC hQ => ?_)
  dsimp only at hC hQ
  refine gx_aload_n (i := 0) hC dX0_burnPerMinute_0 rfl rfl (by first | exact Or.inr ⟨_, rfl⟩ | exact Or.inl rfl | exact kv_isR | exact aref_isR) ?_
  refine gx_getE hC dX0_burnPerMinute_1 fl_X0_15 (by assumption) rfl (rfl) ?_
  refine gx_getK hC dX0_burnPerMinute_4 1 (by decide) fl_X0_46 (by assumption) kf_1 ?_
  refine gx_aload_n (i := 0) hC dX0_burnPerMinute_7 rfl rfl (by first | exact Or.inr ⟨_, rfl⟩ | exact Or.inl rfl | exact kv_isR | exact aref_isR) ?_
  refine gx_getE hC dX0_burnPerMinute_8 fl_X0_15 (by assumption) rfl (rfl) ?_
  refine gx_getK hC dX0_burnPerMinute_11 1 (by decide) fl_X0_46 (by assumption) kf_1 ?_
  refine gx_aload_n (i := 0) hC dX0_burnPerMinute_14 rfl rfl (by first | exact Or.inr ⟨_, rfl⟩ | exact Or.inl rfl | exact kv_isR | exact aref_isR) ?_
  refine gx_getI hC dX0_burnPerMinute_15 fl_X0_30 (by assumption) (by decide) (rfl) ?_
  refine gx_imul hC dX0_burnPerMinute_18 ?_
  refine gx_bipush (v := 40) hC dX0_burnPerMinute_19 bp_40 ?_
  refine gx_idiv hC dX0_burnPerMinute_21 (by decide) ?_
  refine gx_isub hC dX0_burnPerMinute_22 ?_
  exact gx_iret hC hQ dX0_burnPerMinute_23 (rfl) (rfl) rfl
def aUntil (M : hMem) (i : Nat) : Int32 := if M i 2 - kRes (M i 1) ≤ 0 ∨ aBurn (M i 1) (M i 4) ≤ 0 then 0 else (M i 2 - kRes (M i 1) + aBurn (M i 1) (M i 4) - 1) / aBurn (M i 1) (M i 4)
set_option maxHeartbeats 4000000 in
set_option maxRecDepth 20000 in
theorem c_X0_minutesUntilShort (l : Launch) (z : hZt) {n : Nat} {M : hMem} {R : hRef} {i : Nat} (ha : hAt n i (0, 0)) (hk1 : hk (M i 1)) : hCt l z m_X0_minutesUntilShort [.ref (z.1 + i)] n M R n (some (.int (aUntil M i))) M R := by
  refine hs_start [some (.ref (z.1 + i)), none, none] (by decide +kernel) rfl (by intro u hu; simp at hu; subst hu <;> first | rfl | exact isR_cat kv_isR | exact isR_cat aref_isR) (Nat.le_of_ble_eq_true rfl) (Nat.le_refl _) (fun X hlX hN hC hQ => ?_)
  dsimp only at hC hQ
  refine gx_aload_n (i := 0) hC dX0_minutesUntilShort_0 rfl rfl (by first | exact Or.inr ⟨_, rfl⟩ | exact Or.inl rfl | exact kv_isR | exact aref_isR) ?_
  refine gx_getI hC dX0_minutesUntilShort_1 fl_X0_24 (by assumption) (by decide) (rfl) ?_
  refine gx_aload_n (i := 0) hC dX0_minutesUntilShort_4 rfl rfl (by first | exact Or.inr ⟨_, rfl⟩ | exact Or.inl rfl | exact kv_isR | exact aref_isR) ?_
  refine gx_getE hC dX0_minutesUntilShort_5 fl_X0_15 (by assumption) rfl (rfl) ?_
  refine gx_getK hC dX0_minutesUntilShort_8 2 (by decide) fl_X0_43 (by assumption) kf_2 ?_
  refine gx_isub hC dX0_minutesUntilShort_11 ?_
  refine gx_istore_n (i := 1) (L' := [_, _, _]) hC dX0_minutesUntilShort_12 rfl (Nat.le_of_ble_eq_true rfl) rfl (fun u h9 => by first | exact Or.inl rfl | (cases h9; done) | (right; cases h9; first | rfl | exact isR_cat aref_isR | exact isR_cat kv_isR)) ?_
  refine gx_aload_n (i := 0) hC dX0_minutesUntilShort_13 rfl rfl (by first | exact Or.inr ⟨_, rfl⟩ | exact Or.inl rfl | exact kv_isR | exact aref_isR) ?_
  refine gx_callV1 hC dX0_minutesUntilShort_14 (c_X0_burnPerMinute _ _ ha hk1) kY_X0_burnPerMinute kV_X0_burnPerMinute ml_X0_49 (by assumption) rfl (by decide) rfl rfl rfl (by first | exact Nat.le_of_ble_eq_true rfl | (simp [Value.category, isR_cat kv_isR, isR_cat aref_isR]; done)) (Nat.le_refl _) (Nat.le_refl _) ?_
  refine gx_istore_n (i := 2) (L' := [_, _, _]) hC dX0_minutesUntilShort_17 rfl (Nat.le_of_ble_eq_true rfl) rfl (fun u h9 => by first | exact Or.inl rfl | (cases h9; done) | (right; cases h9; first | rfl | exact isR_cat aref_isR | exact isR_cat kv_isR)) ?_
  refine gx_iload_n (i := 1) hC dX0_minutesUntilShort_18 rfl rfl ?_
  refine gx_if_le (tgt := 26) hC dX0_minutesUntilShort_19 (by decide) (fun c_19 => ?_) (fun c_19 => ?_)
  · refine gx_iconst (v := 0) hC dX0_minutesUntilShort_26 ic_0 ?_
    refine gx_goto (tgt := 37) hC dX0_minutesUntilShort_27 (by decide) ?_
    exact gx_iret hC hQ dX0_minutesUntilShort_37 (by unfold aUntil; (repeat' split) <;> first | rfl | (exfalso; (clear hQ hC hN hlX; simp only [Int32.le_iff_toInt_le, Int32.lt_iff_toInt_lt, Int32.not_le, Int32.not_lt, ← Int32.toInt_inj, i32c_0, i32c_1, i32c_2, i32c_3, i32c_4, i32c_5, i32c_6, i32c_7, i32c_8, i32c_9, i32c_16, i32c_20, i32c_99, i32c_m1, i32c_m6, ni_16, ni_20, ni_80, ni_2, ni_5, ni_0, ne_eq] at *; omega))) (rfl) rfl
  · refine gx_iload_n (i := 2) hC dX0_minutesUntilShort_22 rfl rfl ?_
    refine gx_if_gt (tgt := 30) hC dX0_minutesUntilShort_23 (by decide) (fun c_23 => ?_) (fun c_23 => ?_)
    · refine gx_iload_n (i := 1) hC dX0_minutesUntilShort_30 rfl rfl ?_
      refine gx_iload_n (i := 2) hC dX0_minutesUntilShort_31 rfl rfl ?_
      refine gx_iadd hC dX0_minutesUntilShort_32 ?_
      refine gx_iconst (v := 1) hC dX0_minutesUntilShort_33 ic_1 ?_
      refine gx_isub hC dX0_minutesUntilShort_34 ?_
      refine gx_iload_n (i := 2) hC dX0_minutesUntilShort_35 rfl rfl ?_
      refine gx_idiv hC dX0_minutesUntilShort_36 (fun h => absurd (h ▸ c_23 : (0 : Int32) < 0) (by decide)) ?_
      exact gx_iret hC hQ dX0_minutesUntilShort_37 (by unfold aUntil; (repeat' split) <;> first | rfl | (exfalso; (clear hQ hC hN hlX; simp only [Int32.le_iff_toInt_le, Int32.lt_iff_toInt_lt, Int32.not_le, Int32.not_lt, ← Int32.toInt_inj, i32c_0, i32c_1, i32c_2, i32c_3, i32c_4, i32c_5, i32c_6, i32c_7, i32c_8, i32c_9, i32c_16, i32c_20, i32c_99, i32c_m1, i32c_m6, ni_16, ni_20, ni_80, ni_2, ni_5, ni_0, ne_eq] at *; omega))) (rfl) rfl
    · refine gx_iconst (v := 0) hC dX0_minutesUntilShort_26 ic_0 ?_
      refine gx_goto (tgt := 37) hC dX0_minutesUntilShort_27 (by decide) ?_
      exact gx_iret hC hQ dX0_minutesUntilShort_37 (by unfold aUntil; (repeat' split) <;> first | rfl | (exfalso; (clear hQ hC hN hlX; simp only [Int32.le_iff_toInt_le, Int32.lt_iff_toInt_lt, Int32.not_le, Int32.not_lt, ← Int32.toInt_inj, i32c_0, i32c_1, i32c_2, i32c_3, i32c_4, i32c_5, i32c_6, i32c_7, i32c_8, i32c_9, i32c_16, i32c_20, i32c_99, i32c_m1, i32c_m6, ni_16, ni_20, ni_80, ni_2, ni_5, ni_0, ne_eq] at *; omega))) (rfl) rfl
def aBm (M : hMem) (i : Nat) : Int32 := iMin (aBurn (M i 1) (M i 4)) (M i 2)
set_option maxHeartbeats 4000000 in
set_option maxRecDepth 20000 in
theorem c_X0_burnForMinute (l : Launch) (z : hZt) {n : Nat} {M : hMem} {R : hRef} {i : Nat} (ha : hAt n i (0, 0)) (hk1 : hk (M i 1)) : hCt l z m_X0_burnForMinute [.ref (z.1 + i)] n M R n (some (.int (aBm M i))) (up2 M i 2 (M i 2 - aBm M i)) R := by
  refine hs_start [some (.ref (z.1 + i)), none] (by decide +kernel) rfl (by intro u hu; simp at hu; subst hu <;> first | rfl | exact isR_cat kv_isR | exact isR_cat aref_isR) (Nat.le_of_ble_eq_true rfl) (Nat.le_refl _) (fun X hlX hN hC hQ => ?_)
  dsimp only at hC hQ
  refine gx_aload_n (i := 0) hC dX0_burnForMinute_0 rfl rfl (by first | exact Or.inr ⟨_, rfl⟩ | exact Or.inl rfl | exact kv_isR | exact aref_isR) ?_
  refine gx_callV1 hC dX0_burnForMinute_1 (c_X0_burnPerMinute _ _ ha hk1) kY_X0_burnPerMinute kV_X0_burnPerMinute ml_X0_49 (by assumption) rfl (by decide) rfl rfl rfl (by first | exact Nat.le_of_ble_eq_true rfl | (simp [Value.category, isR_cat kv_isR, isR_cat aref_isR]; done)) (Nat.le_refl _) (Nat.le_refl _) ?_
  refine gx_aload_n (i := 0) hC dX0_burnForMinute_4 rfl rfl (by first | exact Or.inr ⟨_, rfl⟩ | exact Or.inl rfl | exact kv_isR | exact aref_isR) ?_
  refine gx_getI hC dX0_burnForMinute_5 fl_X0_24 (by assumption) (by decide) (rfl) ?_
  refine gx_mmin hC dX0_burnForMinute_8 (ml_X0_53) (by decide) rfl (by first | exact Nat.le_of_ble_eq_true rfl | (simp [Value.category, isR_cat kv_isR, isR_cat aref_isR]; done)) (Nat.le_refl _) ?_
  refine gx_istore_n (i := 1) (L' := [_, _]) hC dX0_burnForMinute_11 rfl (Nat.le_of_ble_eq_true rfl) rfl (fun u h9 => by first | exact Or.inl rfl | (cases h9; done) | (right; cases h9; first | rfl | exact isR_cat aref_isR | exact isR_cat kv_isR)) ?_
  refine gx_aload_n (i := 0) hC dX0_burnForMinute_12 rfl rfl (by first | exact Or.inr ⟨_, rfl⟩ | exact Or.inl rfl | exact kv_isR | exact aref_isR) ?_
  refine gx_dup hC dX0_burnForMinute_13 (by first | rfl | exact isR_cat kv_isR | exact isR_cat aref_isR) ?_
  refine gx_getI hC dX0_burnForMinute_14 fl_X0_24 (by assumption) (by decide) (rfl) ?_
  refine gx_iload_n (i := 1) hC dX0_burnForMinute_17 rfl rfl ?_
  refine gx_isub hC dX0_burnForMinute_18 ?_
  refine gx_putI hC dX0_burnForMinute_19 fl_X0_24 (by assumption) fn_0_2 rfl (rfl) ?_
  refine gx_iload_n (i := 1) hC dX0_burnForMinute_22 rfl rfl ?_
  exact gx_iret hC hQ dX0_burnForMinute_23 (rfl) (rfl) rfl
def aFly (M : hMem) (i : Nat) (lap : Int32) : Int32 := if lap ≤ M i 5 + 1 then 0 else M i 5 + 1
set_option maxHeartbeats 4000000 in
set_option maxRecDepth 20000 in
theorem c_X0_flyMinute (l : Launch) (z : hZt) {n : Nat} {M : hMem} {R : hRef} {i : Nat} (ha : hAt n i (0, 0)) (lap : Int32) : hCt l z m_X0_flyMinute [.ref (z.1 + i), .int lap] n M R n none (up2 M i 5 (aFly M i lap)) R := by
  refine hs_start [some (.ref (z.1 + i)), some (.int lap)] (by decide +kernel) rfl (by intro u hu; simp at hu; rcases hu with rfl | rfl <;> first | rfl | exact isR_cat kv_isR | exact isR_cat aref_isR) (Nat.le_of_ble_eq_true rfl) (Nat.le_refl _) (fun X hlX hN hC hQ => ?_)
  dsimp only at hC hQ
  refine gx_aload_n (i := 0) hC dX0_flyMinute_0 rfl rfl (by first | exact Or.inr ⟨_, rfl⟩ | exact Or.inl rfl | exact kv_isR | exact aref_isR) ?_
  refine gx_aload_n (i := 0) hC dX0_flyMinute_1 rfl rfl (by first | exact Or.inr ⟨_, rfl⟩ | exact Or.inl rfl | exact kv_isR | exact aref_isR) ?_
  refine gx_getI hC dX0_flyMinute_2 fl_X0_33 (by assumption) (by decide) (rfl) ?_
  refine gx_iconst (v := 1) hC dX0_flyMinute_5 ic_1 ?_
  refine gx_iadd hC dX0_flyMinute_6 ?_
  refine gx_iload_n (i := 1) hC dX0_flyMinute_7 rfl rfl ?_
  refine gx_icmp_lt (tgt := 15) hC dX0_flyMinute_8 (by decide) (fun c_8 => ?_) (fun c_8 => ?_)
  · refine gx_aload_n (i := 0) hC dX0_flyMinute_15 rfl rfl (by first | exact Or.inr ⟨_, rfl⟩ | exact Or.inl rfl | exact kv_isR | exact aref_isR) ?_
    refine gx_getI hC dX0_flyMinute_16 fl_X0_33 (by assumption) (by decide) (rfl) ?_
    refine gx_iconst (v := 1) hC dX0_flyMinute_19 ic_1 ?_
    refine gx_iadd hC dX0_flyMinute_20 ?_
    refine gx_putI hC dX0_flyMinute_21 fl_X0_33 (by assumption) fn_0_5 rfl (rfl) ?_
    exact gx_vret hC hQ dX0_flyMinute_24 (by unfold aFly; (repeat' split) <;> first | rfl | (exfalso; (clear hQ hC hN hlX; simp only [Int32.le_iff_toInt_le, Int32.lt_iff_toInt_lt, Int32.not_le, Int32.not_lt, ← Int32.toInt_inj, i32c_0, i32c_1, i32c_2, i32c_3, i32c_4, i32c_5, i32c_6, i32c_7, i32c_8, i32c_9, i32c_16, i32c_20, i32c_99, i32c_m1, i32c_m6, ni_16, ni_20, ni_80, ni_2, ni_5, ni_0, ne_eq] at *; omega))) rfl
  · refine gx_iconst (v := 0) hC dX0_flyMinute_11 ic_0 ?_
    refine gx_goto (tgt := 21) hC dX0_flyMinute_12 (by decide) ?_
    refine gx_putI hC dX0_flyMinute_21 fl_X0_33 (by assumption) fn_0_5 rfl (rfl) ?_
    exact gx_vret hC hQ dX0_flyMinute_24 (by unfold aFly; (repeat' split) <;> first | rfl | (exfalso; (clear hQ hC hN hlX; simp only [Int32.le_iff_toInt_le, Int32.lt_iff_toInt_lt, Int32.not_le, Int32.not_lt, ← Int32.toInt_inj, i32c_0, i32c_1, i32c_2, i32c_3, i32c_4, i32c_5, i32c_6, i32c_7, i32c_8, i32c_9, i32c_16, i32c_20, i32c_99, i32c_m1, i32c_m6, ni_16, ni_20, ni_80, ni_2, ni_5, ni_0, ne_eq] at *; omega))) rfl
def cpA (M : hMem) (i j : Nat) : hMem := fun b q => if b = i ∧ 1 ≤ q ∧ q ≤ 7 then M j q else M b q
set_option maxHeartbeats 4000000 in
set_option maxRecDepth 20000 in
theorem c_X0_copyFrom (l : Launch) (z : hZt) {n : Nat} {M : hMem} {R : hRef} {i : Nat} (ha : hAt n i (0, 0)) {j : Nat} (hj : hAt n j (0, 0)) (hji : ¬ j = i) : hCt l z m_X0_copyFrom [.ref (z.1 + i), .ref (z.1 + j)] n M R n none (cpA M i j) R := by
  refine hs_start [some (.ref (z.1 + i)), some (.ref (z.1 + j))] (by decide +kernel) rfl (by intro u hu; simp at hu; rcases hu with rfl | rfl <;> first | rfl | exact isR_cat kv_isR | exact isR_cat aref_isR) (Nat.le_of_ble_eq_true rfl) (Nat.le_refl _) (fun X hlX hN hC hQ => ?_)
  dsimp only at hC hQ
  refine gx_aload_n (i := 0) hC dX0_copyFrom_0 rfl rfl (by first | exact Or.inr ⟨_, rfl⟩ | exact Or.inl rfl | exact kv_isR | exact aref_isR) ?_
  refine gx_aload_n (i := 1) hC dX0_copyFrom_1 rfl rfl (by first | exact Or.inr ⟨_, rfl⟩ | exact Or.inl rfl | exact kv_isR | exact aref_isR) ?_
  refine gx_getE hC dX0_copyFrom_2 fl_X0_15 (by assumption) rfl (by first | (simp only [up2, hji, false_and, if_false]; done) | exact rfl) ?_
  refine gx_putE hC dX0_copyFrom_5 fl_X0_15 (by assumption) fn_0_1 rfl (rfl) ?_
  refine gx_aload_n (i := 0) hC dX0_copyFrom_8 rfl rfl (by first | exact Or.inr ⟨_, rfl⟩ | exact Or.inl rfl | exact kv_isR | exact aref_isR) ?_
  refine gx_aload_n (i := 1) hC dX0_copyFrom_9 rfl rfl (by first | exact Or.inr ⟨_, rfl⟩ | exact Or.inl rfl | exact kv_isR | exact aref_isR) ?_
  refine gx_getI hC dX0_copyFrom_10 fl_X0_24 (by assumption) (by decide) (by first | (simp only [up2, hji, false_and, if_false]; done) | exact rfl) ?_
  refine gx_putI hC dX0_copyFrom_13 fl_X0_24 (by assumption) fn_0_2 rfl (rfl) ?_
  refine gx_aload_n (i := 0) hC dX0_copyFrom_16 rfl rfl (by first | exact Or.inr ⟨_, rfl⟩ | exact Or.inl rfl | exact kv_isR | exact aref_isR) ?_
  refine gx_aload_n (i := 1) hC dX0_copyFrom_17 rfl rfl (by first | exact Or.inr ⟨_, rfl⟩ | exact Or.inl rfl | exact kv_isR | exact aref_isR) ?_
  refine gx_getI hC dX0_copyFrom_18 fl_X0_27 (by assumption) (by decide) (by first | (simp only [up2, hji, false_and, if_false]; done) | exact rfl) ?_
  refine gx_putI hC dX0_copyFrom_21 fl_X0_27 (by assumption) fn_0_3 rfl (rfl) ?_
  refine gx_aload_n (i := 0) hC dX0_copyFrom_24 rfl rfl (by first | exact Or.inr ⟨_, rfl⟩ | exact Or.inl rfl | exact kv_isR | exact aref_isR) ?_
  refine gx_aload_n (i := 1) hC dX0_copyFrom_25 rfl rfl (by first | exact Or.inr ⟨_, rfl⟩ | exact Or.inl rfl | exact kv_isR | exact aref_isR) ?_
  refine gx_getI hC dX0_copyFrom_26 fl_X0_30 (by assumption) (by decide) (by first | (simp only [up2, hji, false_and, if_false]; done) | exact rfl) ?_
  refine gx_putI hC dX0_copyFrom_29 fl_X0_30 (by assumption) fn_0_4 rfl (rfl) ?_
  refine gx_aload_n (i := 0) hC dX0_copyFrom_32 rfl rfl (by first | exact Or.inr ⟨_, rfl⟩ | exact Or.inl rfl | exact kv_isR | exact aref_isR) ?_
  refine gx_aload_n (i := 1) hC dX0_copyFrom_33 rfl rfl (by first | exact Or.inr ⟨_, rfl⟩ | exact Or.inl rfl | exact kv_isR | exact aref_isR) ?_
  refine gx_getI hC dX0_copyFrom_34 fl_X0_33 (by assumption) (by decide) (by first | (simp only [up2, hji, false_and, if_false]; done) | exact rfl) ?_
  refine gx_putI hC dX0_copyFrom_37 fl_X0_33 (by assumption) fn_0_5 rfl (rfl) ?_
  refine gx_aload_n (i := 0) hC dX0_copyFrom_40 rfl rfl (by first | exact Or.inr ⟨_, rfl⟩ | exact Or.inl rfl | exact kv_isR | exact aref_isR) ?_
  refine gx_aload_n (i := 1) hC dX0_copyFrom_41 rfl rfl (by first | exact Or.inr ⟨_, rfl⟩ | exact Or.inl rfl | exact kv_isR | exact aref_isR) ?_
  refine gx_getZ hC dX0_copyFrom_42 fl_X0_36 (by assumption) rfl (by first | (simp only [up2, hji, false_and, if_false]; done) | exact rfl) (fun hz_42 => ?_)
  refine gx_putZ hC dX0_copyFrom_45 fl_X0_36 (by assumption) fn_0_6 rfl (by first | exact Or.inl rfl | exact Or.inr rfl | exact b2_bit _ | assumption) (rfl) ?_
  refine gx_aload_n (i := 0) hC dX0_copyFrom_48 rfl rfl (by first | exact Or.inr ⟨_, rfl⟩ | exact Or.inl rfl | exact kv_isR | exact aref_isR) ?_
  refine gx_aload_n (i := 1) hC dX0_copyFrom_49 rfl rfl (by first | exact Or.inr ⟨_, rfl⟩ | exact Or.inl rfl | exact kv_isR | exact aref_isR) ?_
  refine gx_getI hC dX0_copyFrom_50 fl_X0_40 (by assumption) (by decide) (by first | (simp only [up2, hji, false_and, if_false]; done) | exact rfl) ?_
  refine gx_putI hC dX0_copyFrom_53 fl_X0_40 (by assumption) fn_0_7 rfl (rfl) ?_
  exact gx_vret hC hQ dX0_copyFrom_56 (by funext b q; unfold cpA up2; by_cases hb : b = i <;> (rcases (show q = 0 ∨ q = 1 ∨ q = 2 ∨ q = 3 ∨ q = 4 ∨ q = 5 ∨ q = 6 ∨ q = 7 ∨ 8 ≤ q by omega) with rfl | rfl | rfl | rfl | rfl | rfl | rfl | rfl | hq) <;> first | (simp [hb]; done) | (rw [if_neg (by omega), if_neg (by omega), if_neg (by omega), if_neg (by omega), if_neg (by omega), if_neg (by omega), if_neg (by omega), if_neg (by omega)])) rfl
