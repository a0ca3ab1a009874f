/-! the model -/
def gMd (n : Nat) (R : hRef) : Prop := 226 ≤ n ∧ R 215 0 = 216 ∧ R 215 1 = 217 ∧ R 215 3 = 218 ∧ R 215 4 = 219 ∧ R 215 5 = 220 ∧ R 215 6 = 221 ∧ R 215 9 = 222 ∧ R 215 10 = 223 ∧ R 215 11 = 224 ∧ R 215 12 = 225
theorem gMd.big {n : Nat} {R : hRef} (h : gMd n R) : 226 ≤ n := h.1
theorem gMd.r216 {n : Nat} {R : hRef} (h : gMd n R) : R 215 0 = 216 := h.2.1
theorem gMd.r217 {n : Nat} {R : hRef} (h : gMd n R) : R 215 1 = 217 := h.2.2.1
theorem gMd.r218 {n : Nat} {R : hRef} (h : gMd n R) : R 215 3 = 218 := h.2.2.2.1
theorem gMd.r219 {n : Nat} {R : hRef} (h : gMd n R) : R 215 4 = 219 := h.2.2.2.2.1
theorem gMd.r220 {n : Nat} {R : hRef} (h : gMd n R) : R 215 5 = 220 := h.2.2.2.2.2.1
theorem gMd.r221 {n : Nat} {R : hRef} (h : gMd n R) : R 215 6 = 221 := h.2.2.2.2.2.2.1
theorem gMd.r222 {n : Nat} {R : hRef} (h : gMd n R) : R 215 9 = 222 := h.2.2.2.2.2.2.2.1
theorem gMd.r223 {n : Nat} {R : hRef} (h : gMd n R) : R 215 10 = 223 := h.2.2.2.2.2.2.2.2.1
theorem gMd.r224 {n : Nat} {R : hRef} (h : gMd n R) : R 215 11 = 224 := h.2.2.2.2.2.2.2.2.2.1
theorem gMd.r225 {n : Nat} {R : hRef} (h : gMd n R) : R 215 12 = 225 := h.2.2.2.2.2.2.2.2.2.2
theorem gMd.at215 {n : Nat} {R : hRef} (h : gMd n R) : hAt n 215 (0, 6) := ⟨by have := h.big; omega, by decide⟩
theorem gMd.at216 {n : Nat} {R : hRef} (h : gMd n R) : hAt n 216 (1, 154) := ⟨by have := h.big; omega, by decide⟩
theorem gMd.at217 {n : Nat} {R : hRef} (h : gMd n R) : hAt n 217 (1, 770) := ⟨by have := h.big; omega, by decide⟩
theorem gMd.at218 {n : Nat} {R : hRef} (h : gMd n R) : hAt n 218 (1, 154) := ⟨by have := h.big; omega, by decide⟩
theorem gMd.at219 {n : Nat} {R : hRef} (h : gMd n R) : hAt n 219 (1, 308) := ⟨by have := h.big; omega, by decide⟩
theorem gMd.at220 {n : Nat} {R : hRef} (h : gMd n R) : hAt n 220 (2, 2) := ⟨by have := h.big; omega, by decide⟩
theorem gMd.at221 {n : Nat} {R : hRef} (h : gMd n R) : hAt n 221 (1, 80) := ⟨by have := h.big; omega, by decide⟩
theorem gMd.at222 {n : Nat} {R : hRef} (h : gMd n R) : hAt n 222 (1, 4) := ⟨by have := h.big; omega, by decide⟩
theorem gMd.at223 {n : Nat} {R : hRef} (h : gMd n R) : hAt n 223 (1, 3) := ⟨by have := h.big; omega, by decide⟩
theorem gMd.at224 {n : Nat} {R : hRef} (h : gMd n R) : hAt n 224 (1, 3) := ⟨by have := h.big; omega, by decide⟩
theorem gMd.at225 {n : Nat} {R : hRef} (h : gMd n R) : hAt n 225 (1, 3) := ⟨by have := h.big; omega, by decide⟩
/-- the model's three rows of constants -/
def CR (M : hMem) : Prop := ∀ x, hk x → M 223 x.toNatClampNeg = kRate x ∧ M 224 x.toNatClampNeg = kRes x ∧ M 225 x.toNatClampNeg = kWake x
theorem hk_in {x : Int32} (h : hk x) : vp_in x 3 := by rcases h with rfl | rfl | rfl <;> (rw [vp_in_iff]; decide)
theorem pRn {M : hMem} {i k : Nat} {s : Nat → Int32} (h : k < 2 ^ 31) : putRow M i s i (nI k).toNatClampNeg = s k := by rw [nI_clamp h, pRs]
theorem up_Rn {M : hMem} {i k : Nat} {s : Nat → Int32} {y : Int32} (h : k < 2 ^ 31) : up2 (putRow M i s) i (nI k).toNatClampNeg y = putRow M i (upd s k y) := by rw [nI_clamp h, up_R]
/-- the model's numbers: levels, aircraft, kinds -/
def MW (v : Nat → Int32) (lv c : Nat) : Prop := (v 1 = nI lv ∧ lv ≤ 16) ∧ (v 3 = nI c ∧ c ≤ 20) ∧ ∀ j, j < c → hk (v (14 + 7 * j))
theorem MW.lv {v : Nat → Int32} {lv c : Nat} (h : MW v lv c) : v 1 = nI lv := h.1.1
theorem MW.l16 {v : Nat → Int32} {lv c : Nat} (h : MW v lv c) : lv ≤ 16 := h.1.2
theorem MW.ct {v : Nat → Int32} {lv c : Nat} (h : MW v lv c) : v 3 = nI c := h.2.1.1
theorem MW.c20 {v : Nat → Int32} {lv c : Nat} (h : MW v lv c) : c ≤ 20 := h.2.1.2
theorem MW.kd {v : Nat → Int32} {lv c j : Nat} (h : MW v lv c) (hj : j < c) : hk (v (14 + 7 * j)) := h.2.2 j hj
theorem upd_n {f : Nat → Int32} {k j : Nat} {x : Int32} (h : j ≠ k) : upd f k x j = f j := by simp [upd, h]
theorem upd_s {f : Nat → Int32} {k : Nat} {x : Int32} : upd f k x k = x := by simp [upd]
theorem MW.up {v : Nat → Int32} {lv c k : Nat} {x : Int32} (h : MW v lv c) (h1 : k ≠ 1 ∧ k ≠ 3) (h2 : ∀ j, k ≠ 14 + 7 * j) : MW (upd v k x) lv c :=
  ⟨⟨(upd_n (by omega)).trans h.lv, h.l16⟩, ⟨(upd_n (by omega)).trans h.ct, h.c20⟩, fun j hj => by rw [upd_n (fun e => h2 j e.symm)]; exact h.kd hj⟩
def bIn (x a b : Int32) : Bool := decide (a ≤ x ∧ x ≤ b)
set_option maxHeartbeats 4000000 in
set_option maxRecDepth 20000 in
theorem c_X7_in (l : Launch) (z : hZt) {n : Nat} {M : hMem} {R : hRef} (x a b : Int32) : hCt l z m_X7_in [.int x, .int a, .int b] n M R n (some (.int (b2 (bIn x a b)))) M R := by
  refine hs_start [some (.int x), some (.int a), some (.int b)] (by decide +kernel) rfl (by intro u hu; simp at hu; rcases hu with rfl | rfl | rfl <;> first | rfl | exact isR_cat kv_isR | exact isR_cat aref_isR) (Nat.le_of_ble_eq_true rfl) (Nat.le_refl _) (fun X hlX hN hC hQ => ?_)
  dsimp only at hC hQ
  refine gx_iload_n (i := 0) hC dX7_in_0 rfl rfl ?_
  refine gx_iload_n (i := 1) hC dX7_in_1 rfl rfl ?_
  refine gx_icmp_lt (tgt := 14) hC dX7_in_2 (by decide) (fun c_2 => ?_) (fun c_2 => ?_)
  · refine gx_iconst (v := 0) hC dX7_in_14 ic_0 ?_
    exact gx_zret hC hQ dX7_in_15 (by first | exact Or.inl rfl | exact Or.inr rfl | exact b2_bit _ | assumption) (by first | exact bv1 (by unfold bIn; exact decide_eq_true (by (clear hQ hC hN hlX; simp only [Int32.le_iff_toInt_le, Int32.lt_iff_toInt_lt, Int32.not_le, Int32.not_lt, ← Int32.toInt_inj, i32c_0, i32c_1, i32c_2, i32c_3, i32c_4, i32c_5, i32c_6, i32c_7, i32c_8, i32c_9, i32c_16, i32c_20, i32c_99, i32c_m1, i32c_m6, ni_16, ni_20, ni_80, ni_2, ni_5, ni_0, ne_eq] at *; omega))) | exact bv0 (by unfold bIn; exact decide_eq_false (by (clear hQ hC hN hlX; simp only [Int32.le_iff_toInt_le, Int32.lt_iff_toInt_lt, Int32.not_le, Int32.not_lt, ← Int32.toInt_inj, i32c_0, i32c_1, i32c_2, i32c_3, i32c_4, i32c_5, i32c_6, i32c_7, i32c_8, i32c_9, i32c_16, i32c_20, i32c_99, i32c_m1, i32c_m6, ni_16, ni_20, ni_80, ni_2, ni_5, ni_0, ne_eq] at *; omega)))) (rfl) rfl
  · refine gx_iload_n (i := 0) hC dX7_in_5 rfl rfl ?_
    refine gx_iload_n (i := 2) hC dX7_in_6 rfl rfl ?_
    refine gx_icmp_gt (tgt := 14) hC dX7_in_7 (by decide) (fun c_7 => ?_) (fun c_7 => ?_)
    · refine gx_iconst (v := 0) hC dX7_in_14 ic_0 ?_
      exact gx_zret hC hQ dX7_in_15 (by first | exact Or.inl rfl | exact Or.inr rfl | exact b2_bit _ | assumption) (by first | exact bv1 (by unfold bIn; exact decide_eq_true (by (clear hQ hC hN hlX; simp only [Int32.le_iff_toInt_le, Int32.lt_iff_toInt_lt, Int32.not_le, Int32.not_lt, ← Int32.toInt_inj, i32c_0, i32c_1, i32c_2, i32c_3, i32c_4, i32c_5, i32c_6, i32c_7, i32c_8, i32c_9, i32c_16, i32c_20, i32c_99, i32c_m1, i32c_m6, ni_16, ni_20, ni_80, ni_2, ni_5, ni_0, ne_eq] at *; omega))) | exact bv0 (by unfold bIn; exact decide_eq_false (by (clear hQ hC hN hlX; simp only [Int32.le_iff_toInt_le, Int32.lt_iff_toInt_lt, Int32.not_le, Int32.not_lt, ← Int32.toInt_inj, i32c_0, i32c_1, i32c_2, i32c_3, i32c_4, i32c_5, i32c_6, i32c_7, i32c_8, i32c_9, i32c_16, i32c_20, i32c_99, i32c_m1, i32c_m6, ni_16, ni_20, ni_80, ni_2, ni_5, ni_0, ne_eq] at *; omega)))) (rfl) rfl
    · refine gx_iconst (v := 1) hC dX7_in_10 ic_1 ?_
      refine gx_goto (tgt := 15) hC dX7_in_11 (by decide) ?_
      exact gx_zret hC hQ dX7_in_15 (by first | exact Or.inl rfl | exact Or.inr rfl | exact b2_bit _ | assumption) (by first | exact bv1 (by unfold bIn; exact decide_eq_true (by (clear hQ hC hN hlX; simp only [Int32.le_iff_toInt_le, Int32.lt_iff_toInt_lt, Int32.not_le, Int32.not_lt, ← Int32.toInt_inj, i32c_0, i32c_1, i32c_2, i32c_3, i32c_4, i32c_5, i32c_6, i32c_7, i32c_8, i32c_9, i32c_16, i32c_20, i32c_99, i32c_m1, i32c_m6, ni_16, ni_20, ni_80, ni_2, ni_5, ni_0, ne_eq] at *; omega))) | exact bv0 (by unfold bIn; exact decide_eq_false (by (clear hQ hC hN hlX; simp only [Int32.le_iff_toInt_le, Int32.lt_iff_toInt_lt, Int32.not_le, Int32.not_lt, ← Int32.toInt_inj, i32c_0, i32c_1, i32c_2, i32c_3, i32c_4, i32c_5, i32c_6, i32c_7, i32c_8, i32c_9, i32c_16, i32c_20, i32c_99, i32c_m1, i32c_m6, ni_16, ni_20, ni_80, ni_2, ni_5, ni_0, ne_eq] at *; omega)))) (rfl) rfl
set_option maxHeartbeats 4000000 in
set_option maxRecDepth 20000 in
theorem c_X7_at (l : Launch) (z : hZt) {n : Nat} {M : hMem} {R : hRef} (a : Nat) : hCt l z m_X7_at [.int (nI a)] n M R n (some (.int (nI (14 + 7 * a)))) M R := by
  refine hs_start [some (.int (nI a))] (by decide +kernel) rfl (by intro u hu; simp at hu; subst hu <;> first | rfl | exact isR_cat kv_isR | exact isR_cat aref_isR) (Nat.le_of_ble_eq_true rfl) (Nat.le_refl _) (fun X hlX hN hC hQ => ?_)
  dsimp only at hC hQ
  refine gx_bipush (v := nI 14) hC dX7_at_0 bp_14n ?_
  refine gx_bipush (v := nI 7) hC dX7_at_2 bp_7n ?_
  refine gx_iload_n (i := 0) hC dX7_at_4 rfl rfl ?_
  refine gx_imul hC dX7_at_5 ?_
  refine gx_iadd hC dX7_at_6 ?_
  exact gx_iret hC hQ dX7_at_7 (by rw [pk_mul, nI_add]) (rfl) rfl
def mLv (v : Nat → Int32) (x : Int32) : Bool := bIn x 0 (v 1 - 1)
def mCr (v : Nat → Int32) (x : Int32) : Bool := bIn x 0 (v 3 - 1)
set_option maxHeartbeats 4000000 in
set_option maxRecDepth 20000 in
theorem c_X7_isLevel (l : Launch) (z : hZt) {n : Nat} {M : hMem} {R : hRef} (gM : gMd n R) {v : Nat → Int32} (x : Int32) : hCt l z m_X7_isLevel [.ref (z.1 + 215), .int x] n (putRow M 216 v) R n (some (.int (b2 (mLv v x)))) (putRow M 216 v) R := by
  refine hs_start [some (.ref (z.1 + 215)), some (.int x)] (by decide +kernel) rfl (by intro u hu; simp at hu; rcases hu with rfl | rfl <;> first | rfl | exact isR_cat kv_isR | exact isR_cat aref_isR) (Nat.le_of_ble_eq_true rfl) (Nat.le_refl _) (fun X hlX hN hC hQ => ?_)
  dsimp only at hC hQ
  refine gx_iload_n (i := 1) hC dX7_isLevel_0 rfl rfl ?_
  refine gx_iconst (v := 0) hC dX7_isLevel_1 ic_0 ?_
  refine gx_aload_n (i := 0) hC dX7_isLevel_2 rfl rfl (by first | exact Or.inr ⟨_, rfl⟩ | exact Or.inl rfl | exact kv_isR | exact aref_isR) ?_
  refine gx_getR hC dX7_isLevel_3 fl_X7_7 (by first | exact gM.at215 | exact gM.at216 | exact gM.at217 | exact gM.at218 | exact gM.at219 | exact gM.at220 | exact gM.at221 | exact gM.at222 | exact gM.at223 | exact gM.at224 | exact gM.at225) rfl (gM.r216) (by decide) ?_
  refine gx_iconst (v := nI 1) hC dX7_isLevel_6 ic_1n ?_
  refine gx_iald hC dX7_isLevel_7 (by first | exact gM.at215 | exact gM.at216 | exact gM.at217 | exact gM.at218 | exact gM.at219 | exact gM.at220 | exact gM.at221 | exact gM.at222 | exact gM.at223 | exact gM.at224 | exact gM.at225) (by exact vpn (by omega) (by decide)) (pRn (by omega)) ?_
  refine gx_iconst (v := 1) hC dX7_isLevel_8 ic_1 ?_
  refine gx_isub hC dX7_isLevel_9 ?_
  refine gx_callS1 hC dX7_isLevel_10 (c_X7_in _ _ _ _ _) kY_X7_in kS_X7_in ml_X7_41 (by decide) rfl rfl rfl (by first | exact Nat.le_of_ble_eq_true rfl | (simp [Value.category, isR_cat kv_isR, isR_cat aref_isR]; done)) (Nat.le_refl _) (Nat.le_refl _) ?_
  exact gx_zret hC hQ dX7_isLevel_13 (by exact b2_bit _) (rfl) (rfl) rfl
set_option maxHeartbeats 4000000 in
set_option maxRecDepth 20000 in
theorem c_X7_isCraft (l : Launch) (z : hZt) {n : Nat} {M : hMem} {R : hRef} (gM : gMd n R) {v : Nat → Int32} (x : Int32) : hCt l z m_X7_isCraft [.ref (z.1 + 215), .int x] n (putRow M 216 v) R n (some (.int (b2 (mCr v x)))) (putRow M 216 v) R := by
  refine hs_start [some (.ref (z.1 + 215)), some (.int x)] (by decide +kernel) rfl (by intro u hu; simp at hu; rcases hu with rfl | rfl <;> first | rfl | exact isR_cat kv_isR | exact isR_cat aref_isR) (Nat.le_of_ble_eq_true rfl) (Nat.le_refl _) (fun X hlX hN hC hQ => ?_)
  dsimp only at hC hQ
  refine gx_iload_n (i := 1) hC dX7_isCraft_0 rfl rfl ?_
  refine gx_iconst (v := 0) hC dX7_isCraft_1 ic_0 ?_
  refine gx_aload_n (i := 0) hC dX7_isCraft_2 rfl rfl (by first | exact Or.inr ⟨_, rfl⟩ | exact Or.inl rfl | exact kv_isR | exact aref_isR) ?_
  refine gx_getR hC dX7_isCraft_3 fl_X7_7 (by first | exact gM.at215 | exact gM.at216 | exact gM.at217 | exact gM.at218 | exact gM.at219 | exact gM.at220 | exact gM.at221 | exact gM.at222 | exact gM.at223 | exact gM.at224 | exact gM.at225) rfl (gM.r216) (by decide) ?_
  refine gx_iconst (v := nI 3) hC dX7_isCraft_6 ic_3n ?_
  refine gx_iald hC dX7_isCraft_7 (by first | exact gM.at215 | exact gM.at216 | exact gM.at217 | exact gM.at218 | exact gM.at219 | exact gM.at220 | exact gM.at221 | exact gM.at222 | exact gM.at223 | exact gM.at224 | exact gM.at225) (by exact vpn (by omega) (by decide)) (pRn (by omega)) ?_
  refine gx_iconst (v := 1) hC dX7_isCraft_8 ic_1 ?_
  refine gx_isub hC dX7_isCraft_9 ?_
  refine gx_callS1 hC dX7_isCraft_10 (c_X7_in _ _ _ _ _) kY_X7_in kS_X7_in ml_X7_41 (by decide) rfl rfl rfl (by first | exact Nat.le_of_ble_eq_true rfl | (simp [Value.category, isR_cat kv_isR, isR_cat aref_isR]; done)) (Nat.le_refl _) (Nat.le_refl _) ?_
  exact gx_zret hC hQ dX7_isCraft_13 (by exact b2_bit _) (rfl) (rfl) rfl
set_option maxHeartbeats 4000000 in
set_option maxRecDepth 20000 in
theorem c_X7_puts (l : Launch) (z : hZt) {n : Nat} {M : hMem} {R : hRef} (gM : gMd n R) {v : Nat → Int32} {k : Nat} (hk4 : k < 154) (x : Int32) : hCt l z m_X7_puts [.ref (z.1 + 215), .int (nI k), .int x] n (putRow M 216 v) R n (some (.int (v k))) (putRow M 216 (upd v k x)) R := by
  refine hs_start [some (.ref (z.1 + 215)), some (.int (nI k)), some (.int x), none] (by decide +kernel) rfl (by intro u hu; simp at hu; rcases hu with rfl | rfl | rfl <;> first | rfl | exact isR_cat kv_isR | exact isR_cat aref_isR) (Nat.le_of_ble_eq_true rfl) (Nat.le_refl _) (fun X hlX hN hC hQ => ?_)
  dsimp only at hC hQ
  refine gx_aload_n (i := 0) hC dX7_puts_0 rfl rfl (by first | exact Or.inr ⟨_, rfl⟩ | exact Or.inl rfl | exact kv_isR | exact aref_isR) ?_
  refine gx_getR hC dX7_puts_1 fl_X7_7 (by first | exact gM.at215 | exact gM.at216 | exact gM.at217 | exact gM.at218 | exact gM.at219 | exact gM.at220 | exact gM.at221 | exact gM.at222 | exact gM.at223 | exact gM.at224 | exact gM.at225) rfl (gM.r216) (by decide) ?_
  refine gx_iload_n (i := 1) hC dX7_puts_4 rfl rfl ?_
  refine gx_iald hC dX7_puts_5 (by first | exact gM.at215 | exact gM.at216 | exact gM.at217 | exact gM.at218 | exact gM.at219 | exact gM.at220 | exact gM.at221 | exact gM.at222 | exact gM.at223 | exact gM.at224 | exact gM.at225) (by exact vpn (by omega) (by decide)) (pRn (by omega)) ?_
  refine gx_istore_n (i := 3) (L' := [_, _, _, _]) hC dX7_puts_6 rfl (Nat.le_of_ble_eq_true rfl) rfl (fun u h9 => by first | exact Or.inl rfl | (cases h9; done) | (right; cases h9; first | rfl | exact isR_cat aref_isR | exact isR_cat kv_isR)) ?_
  refine gx_aload_n (i := 0) hC dX7_puts_7 rfl rfl (by first | exact Or.inr ⟨_, rfl⟩ | exact Or.inl rfl | exact kv_isR | exact aref_isR) ?_
  refine gx_getR hC dX7_puts_8 fl_X7_7 (by first | exact gM.at215 | exact gM.at216 | exact gM.at217 | exact gM.at218 | exact gM.at219 | exact gM.at220 | exact gM.at221 | exact gM.at222 | exact gM.at223 | exact gM.at224 | exact gM.at225) rfl (gM.r216) (by decide) ?_
  refine gx_iload_n (i := 1) hC dX7_puts_11 rfl rfl ?_
  refine gx_iload_n (i := 2) hC dX7_puts_12 rfl rfl ?_
  refine gx_iastM hC dX7_puts_13 (by first | exact gM.at215 | exact gM.at216 | exact gM.at217 | exact gM.at218 | exact gM.at219 | exact gM.at220 | exact gM.at221 | exact gM.at222 | exact gM.at223 | exact gM.at224 | exact gM.at225) (by exact vpn (by omega) (by decide)) (up_Rn (by omega)) ?_
  refine gx_iload_n (i := 3) hC dX7_puts_14 rfl rfl ?_
  exact gx_iret hC hQ dX7_puts_15 (rfl) (rfl) rfl

def oI (q : Option Nat) : Int32 := match q with
  | none => -6
  | some j => nI j
/-- the first aircraft below n that holds on that level -/
def mOn (v : Nat → Int32) (x : Int32) : Nat → Option Nat
  | 0 => none
  | a + 1 => match mOn v x a with
    | some j => some j
    | none => if v (14 + 7 * a + 2) = 0 ∧ v (14 + 7 * a + 3) = x then some a else none
theorem mOn_n {v : Nat → Int32} {x : Int32} {a : Nat} (h : mOn v x a = none) (h1 : ¬ (v (14 + 7 * a + 2) = 0 ∧ v (14 + 7 * a + 3) = x)) : mOn v x (a + 1) = none := by rw [mOn, h]; simp only; rw [if_neg h1]
theorem mOn_s {v : Nat → Int32} {x : Int32} {a : Nat} (h : mOn v x a = none) (h1 : v (14 + 7 * a + 2) = 0 ∧ v (14 + 7 * a + 3) = x) : mOn v x (a + 1) = some a := by rw [mOn, h]; simp only; rw [if_pos h1]
theorem mOn_le {v : Nat → Int32} {x : Int32} {a b j : Nat} (h : mOn v x a = some j) (hab : a ≤ b) : mOn v x b = some j := by
  obtain ⟨k, rfl⟩ := Nat.exists_eq_add_of_le hab
  clear hab
  induction k with
  | zero => exact h
  | succ k ih => rw [← Nat.add_assoc, mOn, ih]
theorem mOn_lt {v : Nat → Int32} {x : Int32} {a j : Nat} (h : mOn v x a = some j) : j < a ∧ v (14 + 7 * j + 2) = 0 ∧ v (14 + 7 * j + 3) = x := by
  induction a with
  | zero => cases h
  | succ a ih =>
    rw [mOn] at h
    cases hh : mOn v x a with
    | some i =>
      rw [hh] at h
      cases h
      have := ih hh
      exact ⟨by omega, this.2⟩
    | none =>
      rw [hh] at h
      simp only at h
      split at h
      · next hc => cases h; exact ⟨by omega, hc⟩
      · cases h
set_option maxHeartbeats 4000000 in
set_option maxRecDepth 20000 in
theorem c_X7_on (l : Launch) (z : hZt) {n : Nat} {M : hMem} {R : hRef} (gM : gMd n R) {v : Nat → Int32} {lv c : Nat} (hW : MW v lv c) (x : Int32) : hCt l z m_X7_on [.ref (z.1 + 215), .int x] n (putRow M 216 v) R n (some (.int (oI (mOn v x c)))) (putRow M 216 v) R := by
  refine hs_start [some (.ref (z.1 + 215)), some (.int x), none] (by decide +kernel) rfl (by intro u hu; simp at hu; rcases hu with rfl | rfl <;> first | rfl | exact isR_cat kv_isR | exact isR_cat aref_isR) (Nat.le_of_ble_eq_true rfl) (Nat.le_refl _) (fun X hlX hN hC hQ => ?_)
  dsimp only at hC hQ
  have hc20 := hW.c20
  have hl16 := hW.l16
  refine gx_iconst (v := nI 0) hC dX7_on_0 ic_0n ?_
  refine gx_istore_n (i := 2) (L' := [_, _, _]) hC dX7_on_1 rfl (Nat.le_of_ble_eq_true rfl) rfl (fun u h9 => by first | exact Or.inl rfl | (cases h9; done) | (right; cases h9; first | rfl | exact isR_cat aref_isR | exact isR_cat kv_isR)) ?_
  have loop_2 : ∀ (k : Nat) (a : Nat), c - a < k → a ≤ c → mOn v x a = none → hG z n X n (putRow M 216 v) R 2 [some (.ref (z.1 + 215)), some (.int x), some (.int (nI a))] [] := by
    intro k
    induction k with
    | zero => intros; omega
    | succ k ih =>
      intro a hk1 ha hn
      refine gx_iload_n (i := 2) hC dX7_on_2 rfl rfl ?_
      refine gx_aload_n (i := 0) hC dX7_on_3 rfl rfl (by first | exact Or.inr ⟨_, rfl⟩ | exact Or.inl rfl | exact kv_isR | exact aref_isR) ?_
      refine gx_getR hC dX7_on_4 fl_X7_7 (by first | exact gM.at215 | exact gM.at216 | exact gM.at217 | exact gM.at218 | exact gM.at219 | exact gM.at220 | exact gM.at221 | exact gM.at222 | exact gM.at223 | exact gM.at224 | exact gM.at225) rfl (gM.r216) (by decide) ?_
      refine gx_iconst (v := nI 3) hC dX7_on_7 ic_3n ?_
      refine gx_iald hC dX7_on_8 (by first | exact gM.at215 | exact gM.at216 | exact gM.at217 | exact gM.at218 | exact gM.at219 | exact gM.at220 | exact gM.at221 | exact gM.at222 | exact gM.at223 | exact gM.at224 | exact gM.at225) (by exact vpn (by omega) (by decide)) ((pRn (by omega)).trans hW.ct) ?_
      refine gx_icmp_ge (tgt := 49) hC dX7_on_9 (by decide) (fun c_9 => ?_) (fun c_9 => ?_)
      · have d_9 := cle (by omega) (by omega) c_9
        refine gx_bipush (v := -6) hC dX7_on_49 bp_m6 ?_
        exact gx_iret hC hQ dX7_on_51 ((by rw [show c = a by omega, hn]; rfl)) (rfl) rfl
      · have d_9 := cnle (by omega) (by omega) c_9
        refine gx_aload_n (i := 0) hC dX7_on_12 rfl rfl (by first | exact Or.inr ⟨_, rfl⟩ | exact Or.inl rfl | exact kv_isR | exact aref_isR) ?_
        refine gx_getR hC dX7_on_13 fl_X7_7 (by first | exact gM.at215 | exact gM.at216 | exact gM.at217 | exact gM.at218 | exact gM.at219 | exact gM.at220 | exact gM.at221 | exact gM.at222 | exact gM.at223 | exact gM.at224 | exact gM.at225) rfl (gM.r216) (by decide) ?_
        refine gx_iload_n (i := 2) hC dX7_on_16 rfl rfl ?_
        refine gx_callS1 hC dX7_on_17 (c_X7_at _ _ _) kY_X7_at kS_X7_at ml_X7_52 (by decide) rfl rfl rfl (by first | exact Nat.le_of_ble_eq_true rfl | (simp [Value.category, isR_cat kv_isR, isR_cat aref_isR]; done)) (Nat.le_refl _) (Nat.le_refl _) ?_
        refine gx_iconst (v := nI 2) hC dX7_on_20 ic_2n ?_
        refine gx_iadd hC dX7_on_21 ?_
        rw [nI_add]
        refine gx_iald hC dX7_on_22 (by first | exact gM.at215 | exact gM.at216 | exact gM.at217 | exact gM.at218 | exact gM.at219 | exact gM.at220 | exact gM.at221 | exact gM.at222 | exact gM.at223 | exact gM.at224 | exact gM.at225) (by exact vpn (by omega) (by decide)) (pRn (by omega)) ?_
        refine gx_if_ne (tgt := 43) hC dX7_on_23 (by decide) (fun c_23 => ?_) (fun c_23 => ?_)
        · refine gx_iinc (i := 2) (L' := [_, _, _]) hC dX7_on_43 rfl (ii_1 _) (Nat.le_of_ble_eq_true rfl) rfl (fun u h9 => by first | exact Or.inl rfl | (cases h9; done) | (right; cases h9; first | rfl | exact isR_cat aref_isR | exact isR_cat kv_isR)) ?_
          refine gx_goto (tgt := 2) hC dX7_on_46 (by decide) ?_
          exact ih (a + 1) (by omega) (by omega) (mOn_n hn (fun q => c_23 q.1))
        · refine gx_aload_n (i := 0) hC dX7_on_26 rfl rfl (by first | exact Or.inr ⟨_, rfl⟩ | exact Or.inl rfl | exact kv_isR | exact aref_isR) ?_
          refine gx_getR hC dX7_on_27 fl_X7_7 (by first | exact gM.at215 | exact gM.at216 | exact gM.at217 | exact gM.at218 | exact gM.at219 | exact gM.at220 | exact gM.at221 | exact gM.at222 | exact gM.at223 | exact gM.at224 | exact gM.at225) rfl (gM.r216) (by decide) ?_
          refine gx_iload_n (i := 2) hC dX7_on_30 rfl rfl ?_
          refine gx_callS1 hC dX7_on_31 (c_X7_at _ _ _) kY_X7_at kS_X7_at ml_X7_52 (by decide) rfl rfl rfl (by first | exact Nat.le_of_ble_eq_true rfl | (simp [Value.category, isR_cat kv_isR, isR_cat aref_isR]; done)) (Nat.le_refl _) (Nat.le_refl _) ?_
          refine gx_iconst (v := nI 3) hC dX7_on_34 ic_3n ?_
          refine gx_iadd hC dX7_on_35 ?_
          rw [nI_add]
          refine gx_iald hC dX7_on_36 (by first | exact gM.at215 | exact gM.at216 | exact gM.at217 | exact gM.at218 | exact gM.at219 | exact gM.at220 | exact gM.at221 | exact gM.at222 | exact gM.at223 | exact gM.at224 | exact gM.at225) (by exact vpn (by omega) (by decide)) (pRn (by omega)) ?_
          refine gx_iload_n (i := 1) hC dX7_on_37 rfl rfl ?_
          refine gx_icmp_ne (tgt := 43) hC dX7_on_38 (by decide) (fun c_38 => ?_) (fun c_38 => ?_)
          · refine gx_iinc (i := 2) (L' := [_, _, _]) hC dX7_on_43 rfl (ii_1 _) (Nat.le_of_ble_eq_true rfl) rfl (fun u h9 => by first | exact Or.inl rfl | (cases h9; done) | (right; cases h9; first | rfl | exact isR_cat aref_isR | exact isR_cat kv_isR)) ?_
            refine gx_goto (tgt := 2) hC dX7_on_46 (by decide) ?_
            exact ih (a + 1) (by omega) (by omega) (mOn_n hn (fun q => c_38 q.2))
          · refine gx_iload_n (i := 2) hC dX7_on_41 rfl rfl ?_
            exact gx_iret hC hQ dX7_on_42 ((by rw [mOn_le (mOn_s hn ⟨c_23, c_38⟩) (by omega)]; rfl)) (rfl) rfl
  exact loop_2 (c + 1) 0 (by omega) (by omega) rfl
def mCnt (v : Nat → Int32) (x : Int32) : Nat → Int32
  | 0 => 0
  | a + 1 => if v (14 + 7 * a + 2) = x then mCnt v x a + 1 else mCnt v x a + 0
theorem mCnt_t {v : Nat → Int32} {x : Int32} {a : Nat} (h : v (14 + 7 * a + 2) = x) : mCnt v x (a + 1) = mCnt v x a + 1 := by rw [mCnt, if_pos h]
theorem mCnt_f {v : Nat → Int32} {x : Int32} {a : Nat} (h : ¬ v (14 + 7 * a + 2) = x) : mCnt v x (a + 1) = mCnt v x a + 0 := by rw [mCnt, if_neg h]
set_option maxHeartbeats 4000000 in
set_option maxRecDepth 20000 in
theorem c_X7_holding (l : Launch) (z : hZt) {n : Nat} {M : hMem} {R : hRef} (gM : gMd n R) {v : Nat → Int32} {lv c : Nat} (hW : MW v lv c) : hCt l z m_X7_holding [.ref (z.1 + 215)] n (putRow M 216 v) R n (some (.int (mCnt v 0 c))) (putRow M 216 v) R := by
  refine hs_start [some (.ref (z.1 + 215)), none, none] (by decide +kernel) rfl (by intro u hu; simp at hu; subst hu <;> first | rfl | exact isR_cat kv_isR | exact isR_cat aref_isR) (Nat.le_of_ble_eq_true rfl) (Nat.le_refl _) (fun X hlX hN hC hQ => ?_)
  dsimp only at hC hQ
  have hc20 := hW.c20
  have hl16 := hW.l16
  refine gx_iconst (v := 0) hC dX7_holding_0 ic_0 ?_
  refine gx_istore_n (i := 1) (L' := [_, _, _]) hC dX7_holding_1 rfl (Nat.le_of_ble_eq_true rfl) rfl (fun u h9 => by first | exact Or.inl rfl | (cases h9; done) | (right; cases h9; first | rfl | exact isR_cat aref_isR | exact isR_cat kv_isR)) ?_
  refine gx_iconst (v := nI 0) hC dX7_holding_2 ic_0n ?_
  refine gx_istore_n (i := 2) (L' := [_, _, _]) hC dX7_holding_3 rfl (Nat.le_of_ble_eq_true rfl) rfl (fun u h9 => by first | exact Or.inl rfl | (cases h9; done) | (right; cases h9; first | rfl | exact isR_cat aref_isR | exact isR_cat kv_isR)) ?_
  have loop_4 : ∀ (k : Nat) (a : Nat), c - a < k → a ≤ c → hG z n X n (putRow M 216 v) R 4 [some (.ref (z.1 + 215)), some (.int (mCnt v 0 a)), some (.int (nI a))] [] := by
    intro k
    induction k with
    | zero => intros; omega
    | succ k ih =>
      intro a hk1 ha
      refine gx_iload_n (i := 2) hC dX7_holding_4 rfl rfl ?_
      refine gx_aload_n (i := 0) hC dX7_holding_5 rfl rfl (by first | exact Or.inr ⟨_, rfl⟩ | exact Or.inl rfl | exact kv_isR | exact aref_isR) ?_
      refine gx_getR hC dX7_holding_6 fl_X7_7 (by first | exact gM.at215 | exact gM.at216 | exact gM.at217 | exact gM.at218 | exact gM.at219 | exact gM.at220 | exact gM.at221 | exact gM.at222 | exact gM.at223 | exact gM.at224 | exact gM.at225) rfl (gM.r216) (by decide) ?_
      refine gx_iconst (v := nI 3) hC dX7_holding_9 ic_3n ?_
      refine gx_iald hC dX7_holding_10 (by first | exact gM.at215 | exact gM.at216 | exact gM.at217 | exact gM.at218 | exact gM.at219 | exact gM.at220 | exact gM.at221 | exact gM.at222 | exact gM.at223 | exact gM.at224 | exact gM.at225) (by exact vpn (by omega) (by decide)) ((pRn (by omega)).trans hW.ct) ?_
      refine gx_icmp_ge (tgt := 42) hC dX7_holding_11 (by decide) (fun c_11 => ?_) (fun c_11 => ?_)
      · have d_11 := cle (by omega) (by omega) c_11
        refine gx_iload_n (i := 1) hC dX7_holding_42 rfl rfl ?_
        exact gx_iret hC hQ dX7_holding_43 (by rw [show c = a by omega]) (rfl) rfl
      · have d_11 := cnle (by omega) (by omega) c_11
        refine gx_iload_n (i := 1) hC dX7_holding_14 rfl rfl ?_
        refine gx_aload_n (i := 0) hC dX7_holding_15 rfl rfl (by first | exact Or.inr ⟨_, rfl⟩ | exact Or.inl rfl | exact kv_isR | exact aref_isR) ?_
        refine gx_getR hC dX7_holding_16 fl_X7_7 (by first | exact gM.at215 | exact gM.at216 | exact gM.at217 | exact gM.at218 | exact gM.at219 | exact gM.at220 | exact gM.at221 | exact gM.at222 | exact gM.at223 | exact gM.at224 | exact gM.at225) rfl (gM.r216) (by decide) ?_
        refine gx_iload_n (i := 2) hC dX7_holding_19 rfl rfl ?_
        refine gx_callS1 hC dX7_holding_20 (c_X7_at _ _ _) kY_X7_at kS_X7_at ml_X7_52 (by decide) rfl rfl rfl (by first | exact Nat.le_of_ble_eq_true rfl | (simp [Value.category, isR_cat kv_isR, isR_cat aref_isR]; done)) (Nat.le_refl _) (Nat.le_refl _) ?_
        refine gx_iconst (v := nI 2) hC dX7_holding_23 ic_2n ?_
        refine gx_iadd hC dX7_holding_24 ?_
        rw [nI_add]
        refine gx_iald hC dX7_holding_25 (by first | exact gM.at215 | exact gM.at216 | exact gM.at217 | exact gM.at218 | exact gM.at219 | exact gM.at220 | exact gM.at221 | exact gM.at222 | exact gM.at223 | exact gM.at224 | exact gM.at225) (by exact vpn (by omega) (by decide)) (pRn (by omega)) ?_
        refine gx_if_ne (tgt := 33) hC dX7_holding_26 (by decide) (fun c_26 => ?_) (fun c_26 => ?_)
        · refine gx_iconst (v := 0) hC dX7_holding_33 ic_0 ?_
          refine gx_iadd hC dX7_holding_34 ?_
          refine gx_istore_n (i := 1) (L' := [_, _, _]) hC dX7_holding_35 rfl (Nat.le_of_ble_eq_true rfl) rfl (fun u h9 => by first | exact Or.inl rfl | (cases h9; done) | (right; cases h9; first | rfl | exact isR_cat aref_isR | exact isR_cat kv_isR)) ?_
          refine gx_iinc (i := 2) (L' := [_, _, _]) hC dX7_holding_36 rfl (ii_1 _) (Nat.le_of_ble_eq_true rfl) rfl (fun u h9 => by first | exact Or.inl rfl | (cases h9; done) | (right; cases h9; first | rfl | exact isR_cat aref_isR | exact isR_cat kv_isR)) ?_
          refine gx_goto (tgt := 4) hC dX7_holding_39 (by decide) ?_
          have h9 := ih (a + 1) (by omega) (by omega)
          rw [mCnt_f c_26] at h9
          exact h9
        · refine gx_iconst (v := 1) hC dX7_holding_29 ic_1 ?_
          refine gx_goto (tgt := 34) hC dX7_holding_30 (by decide) ?_
          refine gx_iadd hC dX7_holding_34 ?_
          refine gx_istore_n (i := 1) (L' := [_, _, _]) hC dX7_holding_35 rfl (Nat.le_of_ble_eq_true rfl) rfl (fun u h9 => by first | exact Or.inl rfl | (cases h9; done) | (right; cases h9; first | rfl | exact isR_cat aref_isR | exact isR_cat kv_isR)) ?_
          refine gx_iinc (i := 2) (L' := [_, _, _]) hC dX7_holding_36 rfl (ii_1 _) (Nat.le_of_ble_eq_true rfl) rfl (fun u h9 => by first | exact Or.inl rfl | (cases h9; done) | (right; cases h9; first | rfl | exact isR_cat aref_isR | exact isR_cat kv_isR)) ?_
          refine gx_goto (tgt := 4) hC dX7_holding_39 (by decide) ?_
          have h9 := ih (a + 1) (by omega) (by omega)
          rw [mCnt_t c_26] at h9
          exact h9
  exact loop_4 (c + 1) 0 (by omega) (by omega)
set_option maxHeartbeats 4000000 in
set_option maxRecDepth 20000 in
theorem c_X7_many (l : Launch) (z : hZt) {n : Nat} {M : hMem} {R : hRef} (gM : gMd n R) {v : Nat → Int32} {lv c : Nat} (hW : MW v lv c) (x : Int32) : hCt l z m_X7_many [.ref (z.1 + 215), .int x] n (putRow M 216 v) R n (some (.int (mCnt v x c))) (putRow M 216 v) R := by
  refine hs_start [some (.ref (z.1 + 215)), some (.int x), none, none] (by decide +kernel) rfl (by intro u hu; simp at hu; rcases hu with rfl | rfl <;> first | rfl | exact isR_cat kv_isR | exact isR_cat aref_isR) (Nat.le_of_ble_eq_true rfl) (Nat.le_refl _) (fun X hlX hN hC hQ => ?_)
  dsimp only at hC hQ
  have hc20 := hW.c20
  have hl16 := hW.l16
  refine gx_iconst (v := 0) hC dX7_many_0 ic_0 ?_
  refine gx_istore_n (i := 2) (L' := [_, _, _, _]) hC dX7_many_1 rfl (Nat.le_of_ble_eq_true rfl) rfl (fun u h9 => by first | exact Or.inl rfl | (cases h9; done) | (right; cases h9; first | rfl | exact isR_cat aref_isR | exact isR_cat kv_isR)) ?_
  refine gx_iconst (v := nI 0) hC dX7_many_2 ic_0n ?_
  refine gx_istore_n (i := 3) (L' := [_, _, _, _]) hC dX7_many_3 rfl (Nat.le_of_ble_eq_true rfl) rfl (fun u h9 => by first | exact Or.inl rfl | (cases h9; done) | (right; cases h9; first | rfl | exact isR_cat aref_isR | exact isR_cat kv_isR)) ?_
  have loop_4 : ∀ (k : Nat) (a : Nat), c - a < k → a ≤ c → hG z n X n (putRow M 216 v) R 4 [some (.ref (z.1 + 215)), some (.int x), some (.int (mCnt v x a)), some (.int (nI a))] [] := by
    intro k
    induction k with
    | zero => intros; omega
    | succ k ih =>
      intro a hk1 ha
      refine gx_iload_n (i := 3) hC dX7_many_4 rfl rfl ?_
      refine gx_aload_n (i := 0) hC dX7_many_5 rfl rfl (by first | exact Or.inr ⟨_, rfl⟩ | exact Or.inl rfl | exact kv_isR | exact aref_isR) ?_
      refine gx_getR hC dX7_many_6 fl_X7_7 (by first | exact gM.at215 | exact gM.at216 | exact gM.at217 | exact gM.at218 | exact gM.at219 | exact gM.at220 | exact gM.at221 | exact gM.at222 | exact gM.at223 | exact gM.at224 | exact gM.at225) rfl (gM.r216) (by decide) ?_
      refine gx_iconst (v := nI 3) hC dX7_many_9 ic_3n ?_
      refine gx_iald hC dX7_many_10 (by first | exact gM.at215 | exact gM.at216 | exact gM.at217 | exact gM.at218 | exact gM.at219 | exact gM.at220 | exact gM.at221 | exact gM.at222 | exact gM.at223 | exact gM.at224 | exact gM.at225) (by exact vpn (by omega) (by decide)) ((pRn (by omega)).trans hW.ct) ?_
      refine gx_icmp_ge (tgt := 43) hC dX7_many_11 (by decide) (fun c_11 => ?_) (fun c_11 => ?_)
      · have d_11 := cle (by omega) (by omega) c_11
        refine gx_iload_n (i := 2) hC dX7_many_43 rfl rfl ?_
        exact gx_iret hC hQ dX7_many_44 (by rw [show c = a by omega]) (rfl) rfl
      · have d_11 := cnle (by omega) (by omega) c_11
        refine gx_iload_n (i := 2) hC dX7_many_14 rfl rfl ?_
        refine gx_aload_n (i := 0) hC dX7_many_15 rfl rfl (by first | exact Or.inr ⟨_, rfl⟩ | exact Or.inl rfl | exact kv_isR | exact aref_isR) ?_
        refine gx_getR hC dX7_many_16 fl_X7_7 (by first | exact gM.at215 | exact gM.at216 | exact gM.at217 | exact gM.at218 | exact gM.at219 | exact gM.at220 | exact gM.at221 | exact gM.at222 | exact gM.at223 | exact gM.at224 | exact gM.at225) rfl (gM.r216) (by decide) ?_
        refine gx_iload_n (i := 3) hC dX7_many_19 rfl rfl ?_
        refine gx_callS1 hC dX7_many_20 (c_X7_at _ _ _) kY_X7_at kS_X7_at ml_X7_52 (by decide) rfl rfl rfl (by first | exact Nat.le_of_ble_eq_true rfl | (simp [Value.category, isR_cat kv_isR, isR_cat aref_isR]; done)) (Nat.le_refl _) (Nat.le_refl _) ?_
        refine gx_iconst (v := nI 2) hC dX7_many_23 ic_2n ?_
        refine gx_iadd hC dX7_many_24 ?_
        rw [nI_add]
        refine gx_iald hC dX7_many_25 (by first | exact gM.at215 | exact gM.at216 | exact gM.at217 | exact gM.at218 | exact gM.at219 | exact gM.at220 | exact gM.at221 | exact gM.at222 | exact gM.at223 | exact gM.at224 | exact gM.at225) (by exact vpn (by omega) (by decide)) (pRn (by omega)) ?_
        refine gx_iload_n (i := 1) hC dX7_many_26 rfl rfl ?_
        refine gx_icmp_ne (tgt := 34) hC dX7_many_27 (by decide) (fun c_27 => ?_) (fun c_27 => ?_)
        · refine gx_iconst (v := 0) hC dX7_many_34 ic_0 ?_
          refine gx_iadd hC dX7_many_35 ?_
          refine gx_istore_n (i := 2) (L' := [_, _, _, _]) hC dX7_many_36 rfl (Nat.le_of_ble_eq_true rfl) rfl (fun u h9 => by first | exact Or.inl rfl | (cases h9; done) | (right; cases h9; first | rfl | exact isR_cat aref_isR | exact isR_cat kv_isR)) ?_
          refine gx_iinc (i := 3) (L' := [_, _, _, _]) hC dX7_many_37 rfl (ii_1 _) (Nat.le_of_ble_eq_true rfl) rfl (fun u h9 => by first | exact Or.inl rfl | (cases h9; done) | (right; cases h9; first | rfl | exact isR_cat aref_isR | exact isR_cat kv_isR)) ?_
          refine gx_goto (tgt := 4) hC dX7_many_40 (by decide) ?_
          have h9 := ih (a + 1) (by omega) (by omega)
          rw [mCnt_f c_27] at h9
          exact h9
        · refine gx_iconst (v := 1) hC dX7_many_30 ic_1 ?_
          refine gx_goto (tgt := 35) hC dX7_many_31 (by decide) ?_
          refine gx_iadd hC dX7_many_35 ?_
          refine gx_istore_n (i := 2) (L' := [_, _, _, _]) hC dX7_many_36 rfl (Nat.le_of_ble_eq_true rfl) rfl (fun u h9 => by first | exact Or.inl rfl | (cases h9; done) | (right; cases h9; first | rfl | exact isR_cat aref_isR | exact isR_cat kv_isR)) ?_
          refine gx_iinc (i := 3) (L' := [_, _, _, _]) hC dX7_many_37 rfl (ii_1 _) (Nat.le_of_ble_eq_true rfl) rfl (fun u h9 => by first | exact Or.inl rfl | (cases h9; done) | (right; cases h9; first | rfl | exact isR_cat aref_isR | exact isR_cat kv_isR)) ?_
          refine gx_goto (tgt := 4) hC dX7_many_40 (by decide) ?_
          have h9 := ih (a + 1) (by omega) (by omega)
          rw [mCnt_t c_27] at h9
          exact h9
  exact loop_4 (c + 1) 0 (by omega) (by omega)
def mBurn (v : Nat → Int32) (a : Nat) (l : Int32) : Int32 := kRate (v (14 + 7 * a)) - kRate (v (14 + 7 * a)) * l / 40
set_option maxHeartbeats 4000000 in
set_option maxRecDepth 20000 in
theorem c_X7_burn (l : Launch) (z : hZt) {n : Nat} {M : hMem} {R : hRef} (gM : gMd n R) {v : Nat → Int32} {lv c : Nat} (hW : MW v lv c) (hR3 : CR M) {a : Nat} (ha : a < c) (l2 : Int32) : hCt l z m_X7_burn [.ref (z.1 + 215), .int (nI a), .int l2] n (putRow M 216 v) R n (some (.int (mBurn v a l2))) (putRow M 216 v) R := by
  refine hs_start [some (.ref (z.1 + 215)), some (.int (nI a)), some (.int l2), none] (by decide +kernel) rfl (by intro u hu; simp at hu; rcases hu with rfl | rfl | rfl <;> first | rfl | exact isR_cat kv_isR | exact isR_cat aref_isR) (Nat.le_of_ble_eq_true rfl) (Nat.le_refl _) (fun X hlX hN hC hQ => ?_)
  dsimp only at hC hQ
  have hc20 := hW.c20
  have hl16 := hW.l16
  refine gx_aload_n (i := 0) hC dX7_burn_0 rfl rfl (by first | exact Or.inr ⟨_, rfl⟩ | exact Or.inl rfl | exact kv_isR | exact aref_isR) ?_
  refine gx_getR hC dX7_burn_1 fl_X7_32 (by first | exact gM.at215 | exact gM.at216 | exact gM.at217 | exact gM.at218 | exact gM.at219 | exact gM.at220 | exact gM.at221 | exact gM.at222 | exact gM.at223 | exact gM.at224 | exact gM.at225) rfl (gM.r223) (by decide) ?_
  refine gx_aload_n (i := 0) hC dX7_burn_4 rfl rfl (by first | exact Or.inr ⟨_, rfl⟩ | exact Or.inl rfl | exact kv_isR | exact aref_isR) ?_
  refine gx_getR hC dX7_burn_5 fl_X7_7 (by first | exact gM.at215 | exact gM.at216 | exact gM.at217 | exact gM.at218 | exact gM.at219 | exact gM.at220 | exact gM.at221 | exact gM.at222 | exact gM.at223 | exact gM.at224 | exact gM.at225) rfl (gM.r216) (by decide) ?_
  refine gx_iload_n (i := 1) hC dX7_burn_8 rfl rfl ?_
  refine gx_callS1 hC dX7_burn_9 (c_X7_at _ _ _) kY_X7_at kS_X7_at ml_X7_52 (by decide) rfl rfl rfl (by first | exact Nat.le_of_ble_eq_true rfl | (simp [Value.category, isR_cat kv_isR, isR_cat aref_isR]; done)) (Nat.le_refl _) (Nat.le_refl _) ?_
  refine gx_iald hC dX7_burn_12 (by first | exact gM.at215 | exact gM.at216 | exact gM.at217 | exact gM.at218 | exact gM.at219 | exact gM.at220 | exact gM.at221 | exact gM.at222 | exact gM.at223 | exact gM.at224 | exact gM.at225) (by exact vpn (by omega) (by decide)) (pRn (by omega)) ?_
  refine gx_iald hC dX7_burn_13 (by first | exact gM.at215 | exact gM.at216 | exact gM.at217 | exact gM.at218 | exact gM.at219 | exact gM.at220 | exact gM.at221 | exact gM.at222 | exact gM.at223 | exact gM.at224 | exact gM.at225) (by exact hk_in (hW.kd ha)) ((pRo (by decide)).trans ((hR3 _ (hW.kd ha)).1)) ?_
  refine gx_istore_n (i := 3) (L' := [_, _, _, _]) hC dX7_burn_14 rfl (Nat.le_of_ble_eq_true rfl) rfl (fun u h9 => by first | exact Or.inl rfl | (cases h9; done) | (right; cases h9; first | rfl | exact isR_cat aref_isR | exact isR_cat kv_isR)) ?_
  refine gx_iload_n (i := 3) hC dX7_burn_15 rfl rfl ?_
  refine gx_iload_n (i := 3) hC dX7_burn_16 rfl rfl ?_
  refine gx_iload_n (i := 2) hC dX7_burn_17 rfl rfl ?_
  refine gx_imul hC dX7_burn_18 ?_
  refine gx_bipush (v := 40) hC dX7_burn_19 bp_40 ?_
  refine gx_idiv hC dX7_burn_21 (by decide) ?_
  refine gx_isub hC dX7_burn_22 ?_
  exact gx_iret hC hQ dX7_burn_23 (rfl) (rfl) rfl
def mSh (v : Nat → Int32) (a : Nat) : Bool := decide (v (14 + 7 * a + 1) ≤ kRes (v (14 + 7 * a)))
def mOv (v : Nat → Int32) (a : Nat) : Bool := decide (v (14 + 7 * a + 2) = 0 ∧ v (14 + 7 * a + 4) = 0)
set_option maxHeartbeats 4000000 in
set_option maxRecDepth 20000 in
theorem c_X7_isShort (l : Launch) (z : hZt) {n : Nat} {M : hMem} {R : hRef} (gM : gMd n R) {v : Nat → Int32} {lv c : Nat} (hW : MW v lv c) (hR3 : CR M) {a : Nat} (ha : a < c) : hCt l z m_X7_isShort [.ref (z.1 + 215), .int (nI a)] n (putRow M 216 v) R n (some (.int (b2 (mSh v a)))) (putRow M 216 v) R := by
  refine hs_start [some (.ref (z.1 + 215)), some (.int (nI a))] (by decide +kernel) rfl (by intro u hu; simp at hu; rcases hu with rfl | rfl <;> first | rfl | exact isR_cat kv_isR | exact isR_cat aref_isR) (Nat.le_of_ble_eq_true rfl) (Nat.le_refl _) (fun X hlX hN hC hQ => ?_)
  dsimp only at hC hQ
  have hc20 := hW.c20
  have hl16 := hW.l16
  refine gx_aload_n (i := 0) hC dX7_isShort_0 rfl rfl (by first | exact Or.inr ⟨_, rfl⟩ | exact Or.inl rfl | exact kv_isR | exact aref_isR) ?_
  refine gx_getR hC dX7_isShort_1 fl_X7_7 (by first | exact gM.at215 | exact gM.at216 | exact gM.at217 | exact gM.at218 | exact gM.at219 | exact gM.at220 | exact gM.at221 | exact gM.at222 | exact gM.at223 | exact gM.at224 | exact gM.at225) rfl (gM.r216) (by decide) ?_
  refine gx_iload_n (i := 1) hC dX7_isShort_4 rfl rfl ?_
  refine gx_callS1 hC dX7_isShort_5 (c_X7_at _ _ _) kY_X7_at kS_X7_at ml_X7_52 (by decide) rfl rfl rfl (by first | exact Nat.le_of_ble_eq_true rfl | (simp [Value.category, isR_cat kv_isR, isR_cat aref_isR]; done)) (Nat.le_refl _) (Nat.le_refl _) ?_
  refine gx_iconst (v := nI 1) hC dX7_isShort_8 ic_1n ?_
  refine gx_iadd hC dX7_isShort_9 ?_
  rw [nI_add]
  refine gx_iald hC dX7_isShort_10 (by first | exact gM.at215 | exact gM.at216 | exact gM.at217 | exact gM.at218 | exact gM.at219 | exact gM.at220 | exact gM.at221 | exact gM.at222 | exact gM.at223 | exact gM.at224 | exact gM.at225) (by exact vpn (by omega) (by decide)) (pRn (by omega)) ?_
  refine gx_aload_n (i := 0) hC dX7_isShort_11 rfl rfl (by first | exact Or.inr ⟨_, rfl⟩ | exact Or.inl rfl | exact kv_isR | exact aref_isR) ?_
  refine gx_getR hC dX7_isShort_12 fl_X7_35 (by first | exact gM.at215 | exact gM.at216 | exact gM.at217 | exact gM.at218 | exact gM.at219 | exact gM.at220 | exact gM.at221 | exact gM.at222 | exact gM.at223 | exact gM.at224 | exact gM.at225) rfl (gM.r224) (by decide) ?_
  refine gx_aload_n (i := 0) hC dX7_isShort_15 rfl rfl (by first | exact Or.inr ⟨_, rfl⟩ | exact Or.inl rfl | exact kv_isR | exact aref_isR) ?_
  refine gx_getR hC dX7_isShort_16 fl_X7_7 (by first | exact gM.at215 | exact gM.at216 | exact gM.at217 | exact gM.at218 | exact gM.at219 | exact gM.at220 | exact gM.at221 | exact gM.at222 | exact gM.at223 | exact gM.at224 | exact gM.at225) rfl (gM.r216) (by decide) ?_
  refine gx_iload_n (i := 1) hC dX7_isShort_19 rfl rfl ?_
  refine gx_callS1 hC dX7_isShort_20 (c_X7_at _ _ _) kY_X7_at kS_X7_at ml_X7_52 (by decide) rfl rfl rfl (by first | exact Nat.le_of_ble_eq_true rfl | (simp [Value.category, isR_cat kv_isR, isR_cat aref_isR]; done)) (Nat.le_refl _) (Nat.le_refl _) ?_
  refine gx_iald hC dX7_isShort_23 (by first | exact gM.at215 | exact gM.at216 | exact gM.at217 | exact gM.at218 | exact gM.at219 | exact gM.at220 | exact gM.at221 | exact gM.at222 | exact gM.at223 | exact gM.at224 | exact gM.at225) (by exact vpn (by omega) (by decide)) (pRn (by omega)) ?_
  refine gx_iald hC dX7_isShort_24 (by first | exact gM.at215 | exact gM.at216 | exact gM.at217 | exact gM.at218 | exact gM.at219 | exact gM.at220 | exact gM.at221 | exact gM.at222 | exact gM.at223 | exact gM.at224 | exact gM.at225) (by exact hk_in (hW.kd ha)) ((pRo (by decide)).trans ((hR3 _ (hW.kd ha)).2.1)) ?_
  refine gx_icmp_gt (tgt := 32) hC dX7_isShort_25 (by decide) (fun c_25 => ?_) (fun c_25 => ?_)
  · refine gx_iconst (v := 0) hC dX7_isShort_32 ic_0 ?_
    exact gx_zret hC hQ dX7_isShort_33 (by first | exact Or.inl rfl | exact Or.inr rfl | exact b2_bit _ | assumption) ((bv0 (decide_eq_false (Int32.not_le.mpr c_25)))) (rfl) rfl
  · refine gx_iconst (v := 1) hC dX7_isShort_28 ic_1 ?_
    refine gx_goto (tgt := 33) hC dX7_isShort_29 (by decide) ?_
    exact gx_zret hC hQ dX7_isShort_33 (by first | exact Or.inl rfl | exact Or.inr rfl | exact b2_bit _ | assumption) ((bv1 (decide_eq_true (Int32.not_lt.mp c_25)))) (rfl) rfl
set_option maxHeartbeats 4000000 in
set_option maxRecDepth 20000 in
theorem c_X7_isOver (l : Launch) (z : hZt) {n : Nat} {M : hMem} {R : hRef} (gM : gMd n R) {v : Nat → Int32} {lv c : Nat} (hW : MW v lv c) {a : Nat} (ha : a < c) : hCt l z m_X7_isOver [.ref (z.1 + 215), .int (nI a)] n (putRow M 216 v) R n (some (.int (b2 (mOv v a)))) (putRow M 216 v) R := by
  refine hs_start [some (.ref (z.1 + 215)), some (.int (nI a))] (by decide +kernel) rfl (by intro u hu; simp at hu; rcases hu with rfl | rfl <;> first | rfl | exact isR_cat kv_isR | exact isR_cat aref_isR) (Nat.le_of_ble_eq_true rfl) (Nat.le_refl _) (fun X hlX hN hC hQ => ?_)
  dsimp only at hC hQ
  have hc20 := hW.c20
  have hl16 := hW.l16
  refine gx_aload_n (i := 0) hC dX7_isOver_0 rfl rfl (by first | exact Or.inr ⟨_, rfl⟩ | exact Or.inl rfl | exact kv_isR | exact aref_isR) ?_
  refine gx_getR hC dX7_isOver_1 fl_X7_7 (by first | exact gM.at215 | exact gM.at216 | exact gM.at217 | exact gM.at218 | exact gM.at219 | exact gM.at220 | exact gM.at221 | exact gM.at222 | exact gM.at223 | exact gM.at224 | exact gM.at225) rfl (gM.r216) (by decide) ?_
  refine gx_iload_n (i := 1) hC dX7_isOver_4 rfl rfl ?_
  refine gx_callS1 hC dX7_isOver_5 (c_X7_at _ _ _) kY_X7_at kS_X7_at ml_X7_52 (by decide) rfl rfl rfl (by first | exact Nat.le_of_ble_eq_true rfl | (simp [Value.category, isR_cat kv_isR, isR_cat aref_isR]; done)) (Nat.le_refl _) (Nat.le_refl _) ?_
  refine gx_iconst (v := nI 2) hC dX7_isOver_8 ic_2n ?_
  refine gx_iadd hC dX7_isOver_9 ?_
  rw [nI_add]
  refine gx_iald hC dX7_isOver_10 (by first | exact gM.at215 | exact gM.at216 | exact gM.at217 | exact gM.at218 | exact gM.at219 | exact gM.at220 | exact gM.at221 | exact gM.at222 | exact gM.at223 | exact gM.at224 | exact gM.at225) (by exact vpn (by omega) (by decide)) (pRn (by omega)) ?_
  refine gx_if_ne (tgt := 32) hC dX7_isOver_11 (by decide) (fun c_11 => ?_) (fun c_11 => ?_)
  · refine gx_iconst (v := 0) hC dX7_isOver_32 ic_0 ?_
    exact gx_zret hC hQ dX7_isOver_33 (by first | exact Or.inl rfl | exact Or.inr rfl | exact b2_bit _ | assumption) ((bv0 (decide_eq_false (fun q => c_11 q.1)))) (rfl) rfl
  · refine gx_aload_n (i := 0) hC dX7_isOver_14 rfl rfl (by first | exact Or.inr ⟨_, rfl⟩ | exact Or.inl rfl | exact kv_isR | exact aref_isR) ?_
    refine gx_getR hC dX7_isOver_15 fl_X7_7 (by first | exact gM.at215 | exact gM.at216 | exact gM.at217 | exact gM.at218 | exact gM.at219 | exact gM.at220 | exact gM.at221 | exact gM.at222 | exact gM.at223 | exact gM.at224 | exact gM.at225) rfl (gM.r216) (by decide) ?_
    refine gx_iload_n (i := 1) hC dX7_isOver_18 rfl rfl ?_
    refine gx_callS1 hC dX7_isOver_19 (c_X7_at _ _ _) kY_X7_at kS_X7_at ml_X7_52 (by decide) rfl rfl rfl (by first | exact Nat.le_of_ble_eq_true rfl | (simp [Value.category, isR_cat kv_isR, isR_cat aref_isR]; done)) (Nat.le_refl _) (Nat.le_refl _) ?_
    refine gx_iconst (v := nI 4) hC dX7_isOver_22 ic_4n ?_
    refine gx_iadd hC dX7_isOver_23 ?_
    rw [nI_add]
    refine gx_iald hC dX7_isOver_24 (by first | exact gM.at215 | exact gM.at216 | exact gM.at217 | exact gM.at218 | exact gM.at219 | exact gM.at220 | exact gM.at221 | exact gM.at222 | exact gM.at223 | exact gM.at224 | exact gM.at225) (by exact vpn (by omega) (by decide)) (pRn (by omega)) ?_
    refine gx_if_ne (tgt := 32) hC dX7_isOver_25 (by decide) (fun c_25 => ?_) (fun c_25 => ?_)
    · refine gx_iconst (v := 0) hC dX7_isOver_32 ic_0 ?_
      exact gx_zret hC hQ dX7_isOver_33 (by first | exact Or.inl rfl | exact Or.inr rfl | exact b2_bit _ | assumption) ((bv0 (decide_eq_false (fun q => c_25 q.2)))) (rfl) rfl
    · refine gx_iconst (v := 1) hC dX7_isOver_28 ic_1 ?_
      refine gx_goto (tgt := 33) hC dX7_isOver_29 (by decide) ?_
      exact gx_zret hC hQ dX7_isOver_33 (by first | exact Or.inl rfl | exact Or.inr rfl | exact b2_bit _ | assumption) ((bv1 (decide_eq_true ⟨c_11, c_25⟩))) (rfl) rfl
def mLeave (v : Nat → Int32) (a : Nat) (x : Int32) : Nat → Int32 :=
  let g := upd (upd v (14 + 7 * a + 2) x) (14 + 7 * a + 6) (v 0)
  if x = 1 then upd g 11 (g 11 + g (14 + 7 * a + 1)) else upd g 12 (g 12 + g (14 + 7 * a + 1))
set_option maxHeartbeats 4000000 in
set_option maxRecDepth 20000 in
theorem c_X7_leaves (l : Launch) (z : hZt) {n : Nat} {M : hMem} {R : hRef} (gM : gMd n R) {v : Nat → Int32} {lv c : Nat} (hW : MW v lv c) {a : Nat} (ha : a < c) (x : Int32) : hCt l z m_X7_leaves [.ref (z.1 + 215), .int (nI a), .int x] n (putRow M 216 v) R n none (putRow M 216 (mLeave v a x)) R := by
  refine hs_start [some (.ref (z.1 + 215)), some (.int (nI a)), some (.int x)] (by decide +kernel) rfl (by intro u hu; simp at hu; rcases hu with rfl | rfl | rfl <;> first | rfl | exact isR_cat kv_isR | exact isR_cat aref_isR) (Nat.le_of_ble_eq_true rfl) (Nat.le_refl _) (fun X hlX hN hC hQ => ?_)
  dsimp only at hC hQ
  have hc20 := hW.c20
  have hl16 := hW.l16
  refine gx_aload_n (i := 0) hC dX7_leaves_0 rfl rfl (by first | exact Or.inr ⟨_, rfl⟩ | exact Or.inl rfl | exact kv_isR | exact aref_isR) ?_
  refine gx_getR hC dX7_leaves_1 fl_X7_7 (by first | exact gM.at215 | exact gM.at216 | exact gM.at217 | exact gM.at218 | exact gM.at219 | exact gM.at220 | exact gM.at221 | exact gM.at222 | exact gM.at223 | exact gM.at224 | exact gM.at225) rfl (gM.r216) (by decide) ?_
  refine gx_iload_n (i := 1) hC dX7_leaves_4 rfl rfl ?_
  refine gx_callS1 hC dX7_leaves_5 (c_X7_at _ _ _) kY_X7_at kS_X7_at ml_X7_52 (by decide) rfl rfl rfl (by first | exact Nat.le_of_ble_eq_true rfl | (simp [Value.category, isR_cat kv_isR, isR_cat aref_isR]; done)) (Nat.le_refl _) (Nat.le_refl _) ?_
  refine gx_iconst (v := nI 2) hC dX7_leaves_8 ic_2n ?_
  refine gx_iadd hC dX7_leaves_9 ?_
  rw [nI_add]
  refine gx_iload_n (i := 2) hC dX7_leaves_10 rfl rfl ?_
  refine gx_iastM hC dX7_leaves_11 (by first | exact gM.at215 | exact gM.at216 | exact gM.at217 | exact gM.at218 | exact gM.at219 | exact gM.at220 | exact gM.at221 | exact gM.at222 | exact gM.at223 | exact gM.at224 | exact gM.at225) (by exact vpn (by omega) (by decide)) (up_Rn (by omega)) ?_
  refine gx_aload_n (i := 0) hC dX7_leaves_12 rfl rfl (by first | exact Or.inr ⟨_, rfl⟩ | exact Or.inl rfl | exact kv_isR | exact aref_isR) ?_
  refine gx_getR hC dX7_leaves_13 fl_X7_7 (by first | exact gM.at215 | exact gM.at216 | exact gM.at217 | exact gM.at218 | exact gM.at219 | exact gM.at220 | exact gM.at221 | exact gM.at222 | exact gM.at223 | exact gM.at224 | exact gM.at225) rfl (gM.r216) (by decide) ?_
  refine gx_iload_n (i := 1) hC dX7_leaves_16 rfl rfl ?_
  refine gx_callS1 hC dX7_leaves_17 (c_X7_at _ _ _) kY_X7_at kS_X7_at ml_X7_52 (by decide) rfl rfl rfl (by first | exact Nat.le_of_ble_eq_true rfl | (simp [Value.category, isR_cat kv_isR, isR_cat aref_isR]; done)) (Nat.le_refl _) (Nat.le_refl _) ?_
  refine gx_bipush (v := nI 6) hC dX7_leaves_20 bp_6n ?_
  refine gx_iadd hC dX7_leaves_22 ?_
  rw [nI_add]
  refine gx_aload_n (i := 0) hC dX7_leaves_23 rfl rfl (by first | exact Or.inr ⟨_, rfl⟩ | exact Or.inl rfl | exact kv_isR | exact aref_isR) ?_
  refine gx_getR hC dX7_leaves_24 fl_X7_7 (by first | exact gM.at215 | exact gM.at216 | exact gM.at217 | exact gM.at218 | exact gM.at219 | exact gM.at220 | exact gM.at221 | exact gM.at222 | exact gM.at223 | exact gM.at224 | exact gM.at225) rfl (gM.r216) (by decide) ?_
  refine gx_iconst (v := nI 0) hC dX7_leaves_27 ic_0n ?_
  refine gx_iald hC dX7_leaves_28 (by first | exact gM.at215 | exact gM.at216 | exact gM.at217 | exact gM.at218 | exact gM.at219 | exact gM.at220 | exact gM.at221 | exact gM.at222 | exact gM.at223 | exact gM.at224 | exact gM.at225) (by exact vpn (by omega) (by decide)) ((pRn (by omega)).trans (upd_n (by omega))) ?_
  refine gx_iastM hC dX7_leaves_29 (by first | exact gM.at215 | exact gM.at216 | exact gM.at217 | exact gM.at218 | exact gM.at219 | exact gM.at220 | exact gM.at221 | exact gM.at222 | exact gM.at223 | exact gM.at224 | exact gM.at225) (by exact vpn (by omega) (by decide)) (up_Rn (by omega)) ?_
  refine gx_aload_n (i := 0) hC dX7_leaves_30 rfl rfl (by first | exact Or.inr ⟨_, rfl⟩ | exact Or.inl rfl | exact kv_isR | exact aref_isR) ?_
  refine gx_getR hC dX7_leaves_31 fl_X7_7 (by first | exact gM.at215 | exact gM.at216 | exact gM.at217 | exact gM.at218 | exact gM.at219 | exact gM.at220 | exact gM.at221 | exact gM.at222 | exact gM.at223 | exact gM.at224 | exact gM.at225) rfl (gM.r216) (by decide) ?_
  refine gx_iload_n (i := 2) hC dX7_leaves_34 rfl rfl ?_
  refine gx_iconst (v := 1) hC dX7_leaves_35 ic_1 ?_
  refine gx_icmp_ne (tgt := 44) hC dX7_leaves_36 (by decide) (fun c_36 => ?_) (fun c_36 => ?_)
  · refine gx_bipush (v := nI 12) hC dX7_leaves_44 bp_12n ?_
    refine gx_dup2 hC dX7_leaves_46 rfl rfl ?_
    refine gx_iald hC dX7_leaves_47 (by first | exact gM.at215 | exact gM.at216 | exact gM.at217 | exact gM.at218 | exact gM.at219 | exact gM.at220 | exact gM.at221 | exact gM.at222 | exact gM.at223 | exact gM.at224 | exact gM.at225) (by exact vpn (by omega) (by decide)) (pRn (by omega)) ?_
    refine gx_aload_n (i := 0) hC dX7_leaves_48 rfl rfl (by first | exact Or.inr ⟨_, rfl⟩ | exact Or.inl rfl | exact kv_isR | exact aref_isR) ?_
    refine gx_getR hC dX7_leaves_49 fl_X7_7 (by first | exact gM.at215 | exact gM.at216 | exact gM.at217 | exact gM.at218 | exact gM.at219 | exact gM.at220 | exact gM.at221 | exact gM.at222 | exact gM.at223 | exact gM.at224 | exact gM.at225) rfl (gM.r216) (by decide) ?_
    refine gx_iload_n (i := 1) hC dX7_leaves_52 rfl rfl ?_
    refine gx_callS1 hC dX7_leaves_53 (c_X7_at _ _ _) kY_X7_at kS_X7_at ml_X7_52 (by decide) rfl rfl rfl (by first | exact Nat.le_of_ble_eq_true rfl | (simp [Value.category, isR_cat kv_isR, isR_cat aref_isR]; done)) (Nat.le_refl _) (Nat.le_refl _) ?_
    refine gx_iconst (v := nI 1) hC dX7_leaves_56 ic_1n ?_
    refine gx_iadd hC dX7_leaves_57 ?_
    rw [nI_add]
    refine gx_iald hC dX7_leaves_58 (by first | exact gM.at215 | exact gM.at216 | exact gM.at217 | exact gM.at218 | exact gM.at219 | exact gM.at220 | exact gM.at221 | exact gM.at222 | exact gM.at223 | exact gM.at224 | exact gM.at225) (by exact vpn (by omega) (by decide)) (pRn (by omega)) ?_
    refine gx_iadd hC dX7_leaves_59 ?_
    refine gx_iastM hC dX7_leaves_60 (by first | exact gM.at215 | exact gM.at216 | exact gM.at217 | exact gM.at218 | exact gM.at219 | exact gM.at220 | exact gM.at221 | exact gM.at222 | exact gM.at223 | exact gM.at224 | exact gM.at225) (by exact vpn (by omega) (by decide)) (up_Rn (by omega)) ?_
    exact gx_vret hC hQ dX7_leaves_61 ((by unfold mLeave; simp only; rw [if_neg c_36])) rfl
  · refine gx_bipush (v := nI 11) hC dX7_leaves_39 bp_11n ?_
    refine gx_goto (tgt := 46) hC dX7_leaves_41 (by decide) ?_
    refine gx_dup2 hC dX7_leaves_46 rfl rfl ?_
    refine gx_iald hC dX7_leaves_47 (by first | exact gM.at215 | exact gM.at216 | exact gM.at217 | exact gM.at218 | exact gM.at219 | exact gM.at220 | exact gM.at221 | exact gM.at222 | exact gM.at223 | exact gM.at224 | exact gM.at225) (by exact vpn (by omega) (by decide)) (pRn (by omega)) ?_
    refine gx_aload_n (i := 0) hC dX7_leaves_48 rfl rfl (by first | exact Or.inr ⟨_, rfl⟩ | exact Or.inl rfl | exact kv_isR | exact aref_isR) ?_
    refine gx_getR hC dX7_leaves_49 fl_X7_7 (by first | exact gM.at215 | exact gM.at216 | exact gM.at217 | exact gM.at218 | exact gM.at219 | exact gM.at220 | exact gM.at221 | exact gM.at222 | exact gM.at223 | exact gM.at224 | exact gM.at225) rfl (gM.r216) (by decide) ?_
    refine gx_iload_n (i := 1) hC dX7_leaves_52 rfl rfl ?_
    refine gx_callS1 hC dX7_leaves_53 (c_X7_at _ _ _) kY_X7_at kS_X7_at ml_X7_52 (by decide) rfl rfl rfl (by first | exact Nat.le_of_ble_eq_true rfl | (simp [Value.category, isR_cat kv_isR, isR_cat aref_isR]; done)) (Nat.le_refl _) (Nat.le_refl _) ?_
    refine gx_iconst (v := nI 1) hC dX7_leaves_56 ic_1n ?_
    refine gx_iadd hC dX7_leaves_57 ?_
    rw [nI_add]
    refine gx_iald hC dX7_leaves_58 (by first | exact gM.at215 | exact gM.at216 | exact gM.at217 | exact gM.at218 | exact gM.at219 | exact gM.at220 | exact gM.at221 | exact gM.at222 | exact gM.at223 | exact gM.at224 | exact gM.at225) (by exact vpn (by omega) (by decide)) (pRn (by omega)) ?_
    refine gx_iadd hC dX7_leaves_59 ?_
    refine gx_iastM hC dX7_leaves_60 (by first | exact gM.at215 | exact gM.at216 | exact gM.at217 | exact gM.at218 | exact gM.at219 | exact gM.at220 | exact gM.at221 | exact gM.at222 | exact gM.at223 | exact gM.at224 | exact gM.at225) (by exact vpn (by omega) (by decide)) (up_Rn (by omega)) ?_
    exact gx_vret hC hQ dX7_leaves_61 ((by unfold mLeave; simp only; rw [if_pos c_36])) rfl
