/-! the model: entering, calls, records -/
theorem up_Ro {M : hMem} {i j k : Nat} {s : Nat → Int32} {x : Int32} (h : j ≠ i) : up2 (putRow M i s) j k x = putRow (up2 M j k x) i s := by
  funext b q
  simp only [up2, putRow]
  by_cases h1 : b = j ∧ q = k
  · rw [if_pos h1, if_neg (by omega), if_pos h1]
  · rw [if_neg h1, if_neg h1]
theorem pR_o {M : hMem} {i j : Nat} {s t : Nat → Int32} (h : j ≠ i) : putRow (putRow M i s) j t = putRow (putRow M j t) i s := by
  funext b q
  unfold putRow
  by_cases h1 : b = j
  · rw [if_pos h1, if_neg (by omega), if_pos h1]
  · rw [if_neg h1, if_neg h1]
theorem mCr_n {v : Nat → Int32} {lv c j : Nat} (h : MW v lv c) (hj : j < c) : mCr v (nI j) = true := by
  have hc := h.c20
  unfold mCr bIn
  rw [h.ct]
  refine decide_eq_true ⟨?_, ?_⟩
  · rw [Int32.le_iff_toInt_le, nI_toInt (by omega)]; exact Int.natCast_nonneg j
  · rw [Int32.le_iff_toInt_le, nI_toInt (by omega), Int32.toInt_sub, nI_toInt (by omega)]
    have : (1 : Int32).toInt = 1 := by decide
    rw [this, Int.bmod_eq_of_le (by omega) (by omega)]
    omega
def mEw (v : Nat → Int32) (x fu y : Int32) : Int32 :=
  if bIn x 0 2 = false ∨ mLv v y = false then -1 else if bIn fu 1 9999 = false then -2 else if v 3 = 20 then -4 else 0
set_option maxHeartbeats 4000000 in
set_option maxRecDepth 20000 in
theorem c_X7_enterWrong (l : Launch) (z : hZt) {n : Nat} {M : hMem} {R : hRef} (gM : gMd n R) {v : Nat → Int32} (x fu y : Int32) : hCt l z m_X7_enterWrong [.ref (z.1 + 215), .int x, .int fu, .int y] n (putRow M 216 v) R n (some (.int (mEw v x fu y))) (putRow M 216 v) R := by
  refine hs_start [some (.ref (z.1 + 215)), some (.int x), some (.int fu), some (.int y)] (by decide +kernel) rfl (by intro u hu; simp at hu; rcases hu with rfl | rfl | rfl | rfl <;> first | rfl | exact isR_cat kv_isR | exact isR_cat aref_isR) (Nat.le_of_ble_eq_true rfl) (Nat.le_refl _) (fun X hlX hN hC hQ => ?_)
  dsimp only at hC hQ
  refine gx_iload_n (i := 1) hC dX7_enterWrong_0 rfl rfl ?_
  refine gx_iconst (v := 0) hC dX7_enterWrong_1 ic_0 ?_
  refine gx_iconst (v := 2) hC dX7_enterWrong_2 ic_2 ?_
  refine gx_callS1 hC dX7_enterWrong_3 (c_X7_in _ _ _ _ _) kY_X7_in kS_X7_in ml_X7_41 (by decide) rfl rfl rfl (by first | exact Nat.le_of_ble_eq_true rfl | (simp [Value.category, isR_cat kv_isR, isR_cat aref_isR]; done)) (Nat.le_refl _) (Nat.le_refl _) ?_
  refine gx_ifb_eq (tgt := 17) hC dX7_enterWrong_6 (by decide) (fun c_6 => ?_) (fun c_6 => ?_)
  · refine gx_iconst (v := -1) hC dX7_enterWrong_17 ic_m1 ?_
    exact gx_iret hC hQ dX7_enterWrong_18 ((by simp [mEw, c_6])) (rfl) rfl
  · refine gx_aload_n (i := 0) hC dX7_enterWrong_9 rfl rfl (by first | exact Or.inr ⟨_, rfl⟩ | exact Or.inl rfl | exact kv_isR | exact aref_isR) ?_
    refine gx_iload_n (i := 3) hC dX7_enterWrong_10 rfl rfl ?_
    refine gx_callV1 hC dX7_enterWrong_11 (c_X7_isLevel _ _ gM _) kY_X7_isLevel kV_X7_isLevel ml_X7_64 (by first | exact gM.at215 | exact gM.at216 | exact gM.at217 | exact gM.at218 | exact gM.at219 | exact gM.at220 | exact gM.at221 | exact gM.at222 | exact gM.at223 | exact gM.at224 | exact gM.at225) rfl (by decide) rfl rfl rfl (by first | exact Nat.le_of_ble_eq_true rfl | (simp [Value.category, isR_cat kv_isR, isR_cat aref_isR]; done)) (Nat.le_refl _) (Nat.le_refl _) ?_
    refine gx_ifb_ne (tgt := 19) hC dX7_enterWrong_14 (by decide) (fun c_14 => ?_) (fun c_14 => ?_)
    · refine gx_iload_n (i := 2) hC dX7_enterWrong_19 rfl rfl ?_
      refine gx_iconst (v := 1) hC dX7_enterWrong_20 ic_1 ?_
      refine gx_sipush (v := 9999) hC dX7_enterWrong_21 sp_9999 ?_
      refine gx_callS1 hC dX7_enterWrong_24 (c_X7_in _ _ _ _ _) kY_X7_in kS_X7_in ml_X7_41 (by decide) rfl rfl rfl (by first | exact Nat.le_of_ble_eq_true rfl | (simp [Value.category, isR_cat kv_isR, isR_cat aref_isR]; done)) (Nat.le_refl _) (Nat.le_refl _) ?_
      refine gx_ifb_ne (tgt := 35) hC dX7_enterWrong_27 (by decide) (fun c_27 => ?_) (fun c_27 => ?_)
      · refine gx_aload_n (i := 0) hC dX7_enterWrong_35 rfl rfl (by first | exact Or.inr ⟨_, rfl⟩ | exact Or.inl rfl | exact kv_isR | exact aref_isR) ?_
        refine gx_getR hC dX7_enterWrong_36 fl_X7_7 (by first | exact gM.at215 | exact gM.at216 | exact gM.at217 | exact gM.at218 | exact gM.at219 | exact gM.at220 | exact gM.at221 | exact gM.at222 | exact gM.at223 | exact gM.at224 | exact gM.at225) rfl (gM.r216) (by decide) ?_
        refine gx_iconst (v := nI 3) hC dX7_enterWrong_39 ic_3n ?_
        refine gx_iald hC dX7_enterWrong_40 (by first | exact gM.at215 | exact gM.at216 | exact gM.at217 | exact gM.at218 | exact gM.at219 | exact gM.at220 | exact gM.at221 | exact gM.at222 | exact gM.at223 | exact gM.at224 | exact gM.at225) (by exact vpn (by omega) (by decide)) (pRn (by omega)) ?_
        refine gx_bipush (v := 20) hC dX7_enterWrong_41 bp_20 ?_
        refine gx_icmp_ne (tgt := 51) hC dX7_enterWrong_43 (by decide) (fun c_43 => ?_) (fun c_43 => ?_)
        · refine gx_iconst (v := 0) hC dX7_enterWrong_51 ic_0 ?_
          exact gx_iret hC hQ dX7_enterWrong_52 ((by simp [mEw, c_6, c_14, c_27, c_43])) (rfl) rfl
        · refine gx_bipush (v := -4) hC dX7_enterWrong_46 bp_m4 ?_
          refine gx_goto (tgt := 52) hC dX7_enterWrong_48 (by decide) ?_
          exact gx_iret hC hQ dX7_enterWrong_52 ((by simp [mEw, c_6, c_14, c_27, c_43])) (rfl) rfl
      · refine gx_bipush (v := -2) hC dX7_enterWrong_30 bp_m2 ?_
        refine gx_goto (tgt := 52) hC dX7_enterWrong_32 (by decide) ?_
        exact gx_iret hC hQ dX7_enterWrong_52 ((by simp [mEw, c_6, c_14, c_27])) (rfl) rfl
    · refine gx_iconst (v := -1) hC dX7_enterWrong_17 ic_m1 ?_
      exact gx_iret hC hQ dX7_enterWrong_18 ((by simp [mEw, c_6, c_14])) (rfl) rfl
def mRf (v : Nat → Int32) (c : Nat) (x fu y : Int32) : Int32 :=
  if ¬ oI (mOn v y c) = -6 then 1 else if fu ≤ kRes x then 2 else if mCnt v 0 c < v 7 then 0 else 3
set_option maxHeartbeats 4000000 in
set_option maxRecDepth 20000 in
theorem c_X7_refusal (l : Launch) (z : hZt) {n : Nat} {M : hMem} {R : hRef} (gM : gMd n R) {v : Nat → Int32} {lv c : Nat} (hW : MW v lv c) (hR3 : CR M) {x : Int32} (hx : hk x) (fu y : Int32) : hCt l z m_X7_refusal [.ref (z.1 + 215), .int x, .int fu, .int y] n (putRow M 216 v) R n (some (.int (mRf v c x fu y))) (putRow M 216 v) R := by
  refine hs_start [some (.ref (z.1 + 215)), some (.int x), some (.int fu), some (.int y)] (by decide +kernel) rfl (by intro u hu; simp at hu; rcases hu with rfl | rfl | rfl | rfl <;> first | rfl | exact isR_cat kv_isR | exact isR_cat aref_isR) (Nat.le_of_ble_eq_true rfl) (Nat.le_refl _) (fun X hlX hN hC hQ => ?_)
  dsimp only at hC hQ
  refine gx_aload_n (i := 0) hC dX7_refusal_0 rfl rfl (by first | exact Or.inr ⟨_, rfl⟩ | exact Or.inl rfl | exact kv_isR | exact aref_isR) ?_
  refine gx_iload_n (i := 3) hC dX7_refusal_1 rfl rfl ?_
  refine gx_callV1 hC dX7_refusal_2 (c_X7_on _ _ gM hW _) kY_X7_on kV_X7_on ml_X7_68 (by first | exact gM.at215 | exact gM.at216 | exact gM.at217 | exact gM.at218 | exact gM.at219 | exact gM.at220 | exact gM.at221 | exact gM.at222 | exact gM.at223 | exact gM.at224 | exact gM.at225) rfl (by decide) rfl rfl rfl (by first | exact Nat.le_of_ble_eq_true rfl | (simp [Value.category, isR_cat kv_isR, isR_cat aref_isR]; done)) (Nat.le_refl _) (Nat.le_refl _) ?_
  refine gx_bipush (v := -6) hC dX7_refusal_5 bp_m6 ?_
  refine gx_icmp_eq (tgt := 12) hC dX7_refusal_7 (by decide) (fun c_7 => ?_) (fun c_7 => ?_)
  · refine gx_iload_n (i := 2) hC dX7_refusal_12 rfl rfl ?_
    refine gx_aload_n (i := 0) hC dX7_refusal_13 rfl rfl (by first | exact Or.inr ⟨_, rfl⟩ | exact Or.inl rfl | exact kv_isR | exact aref_isR) ?_
    refine gx_getR hC dX7_refusal_14 fl_X7_35 (by first | exact gM.at215 | exact gM.at216 | exact gM.at217 | exact gM.at218 | exact gM.at219 | exact gM.at220 | exact gM.at221 | exact gM.at222 | exact gM.at223 | exact gM.at224 | exact gM.at225) rfl (gM.r224) (by decide) ?_
    refine gx_iload_n (i := 1) hC dX7_refusal_17 rfl rfl ?_
    refine gx_iald hC dX7_refusal_18 (by first | exact gM.at215 | exact gM.at216 | exact gM.at217 | exact gM.at218 | exact gM.at219 | exact gM.at220 | exact gM.at221 | exact gM.at222 | exact gM.at223 | exact gM.at224 | exact gM.at225) (by exact hk_in (hx)) ((pRo (by decide)).trans ((hR3 _ (hx)).2.1)) ?_
    refine gx_icmp_gt (tgt := 26) hC dX7_refusal_19 (by decide) (fun c_19 => ?_) (fun c_19 => ?_)
    · refine gx_aload_n (i := 0) hC dX7_refusal_26 rfl rfl (by first | exact Or.inr ⟨_, rfl⟩ | exact Or.inl rfl | exact kv_isR | exact aref_isR) ?_
      refine gx_callV1 hC dX7_refusal_27 (c_X7_holding _ _ gM hW) kY_X7_holding kV_X7_holding ml_X7_71 (by first | exact gM.at215 | exact gM.at216 | exact gM.at217 | exact gM.at218 | exact gM.at219 | exact gM.at220 | exact gM.at221 | exact gM.at222 | exact gM.at223 | exact gM.at224 | exact gM.at225) rfl (by decide) rfl rfl rfl (by first | exact Nat.le_of_ble_eq_true rfl | (simp [Value.category, isR_cat kv_isR, isR_cat aref_isR]; done)) (Nat.le_refl _) (Nat.le_refl _) ?_
      refine gx_aload_n (i := 0) hC dX7_refusal_30 rfl rfl (by first | exact Or.inr ⟨_, rfl⟩ | exact Or.inl rfl | exact kv_isR | exact aref_isR) ?_
      refine gx_getR hC dX7_refusal_31 fl_X7_7 (by first | exact gM.at215 | exact gM.at216 | exact gM.at217 | exact gM.at218 | exact gM.at219 | exact gM.at220 | exact gM.at221 | exact gM.at222 | exact gM.at223 | exact gM.at224 | exact gM.at225) rfl (gM.r216) (by decide) ?_
      refine gx_bipush (v := nI 7) hC dX7_refusal_34 bp_7n ?_
      refine gx_iald hC dX7_refusal_36 (by first | exact gM.at215 | exact gM.at216 | exact gM.at217 | exact gM.at218 | exact gM.at219 | exact gM.at220 | exact gM.at221 | exact gM.at222 | exact gM.at223 | exact gM.at224 | exact gM.at225) (by exact vpn (by omega) (by decide)) (pRn (by omega)) ?_
      refine gx_icmp_lt (tgt := 44) hC dX7_refusal_37 (by decide) (fun c_37 => ?_) (fun c_37 => ?_)
      · refine gx_iconst (v := 0) hC dX7_refusal_44 ic_0 ?_
        exact gx_iret hC hQ dX7_refusal_45 ((by unfold mRf; rw [if_neg (fun q => q c_7), if_neg (Int32.not_le.mpr c_19), if_pos c_37])) (rfl) rfl
      · refine gx_iconst (v := 3) hC dX7_refusal_40 ic_3 ?_
        refine gx_goto (tgt := 45) hC dX7_refusal_41 (by decide) ?_
        exact gx_iret hC hQ dX7_refusal_45 ((by unfold mRf; rw [if_neg (fun q => q c_7), if_neg (Int32.not_le.mpr c_19), if_neg c_37])) (rfl) rfl
    · refine gx_iconst (v := 2) hC dX7_refusal_22 ic_2 ?_
      refine gx_goto (tgt := 45) hC dX7_refusal_23 (by decide) ?_
      exact gx_iret hC hQ dX7_refusal_45 ((by unfold mRf; rw [if_neg (fun q => q c_7), if_pos (Int32.not_lt.mp c_19)])) (rfl) rfl
  · refine gx_iconst (v := 1) hC dX7_refusal_10 ic_1 ?_
    exact gx_iret hC hQ dX7_refusal_11 ((by unfold mRf; rw [if_pos c_7])) (rfl) rfl
def mEn (v : Nat → Int32) (c : Nat) (x fu y : Int32) : Nat → Int32 :=
  upd (upd (upd (upd (upd (upd (upd (upd (upd (upd v (14 + 7 * c) x) (14 + 7 * c + 1) fu) (14 + 7 * c + 2) 0) (14 + 7 * c + 3) y) (14 + 7 * c + 4) 1) (14 + 7 * c + 5) 0) (14 + 7 * c + 6) 0) 3 (nI (c + 1))) 9 (v 9 + fu)) 13 0
theorem eT {v : Nat → Int32} {lv c : Nat} (hW : MW v lv c) {x1 x2 x3 x4 x5 x6 x7 : Int32} : upd (upd (upd (upd (upd (upd (upd v (14 + 7 * c) x1) (14 + 7 * c + 1) x2) (14 + 7 * c + 2) x3) (14 + 7 * c + 3) x4) (14 + 7 * c + 4) x5) (14 + 7 * c + 5) x6) (14 + 7 * c + 6) x7 3 = nI c := by
  repeat rw [upd_n (by omega)]
  exact hW.ct
theorem eT9 {v : Nat → Int32} {c : Nat} {x1 x2 x3 x4 x5 x6 x7 x8 : Int32} : upd (upd (upd (upd (upd (upd (upd (upd v (14 + 7 * c) x1) (14 + 7 * c + 1) x2) (14 + 7 * c + 2) x3) (14 + 7 * c + 3) x4) (14 + 7 * c + 4) x5) (14 + 7 * c + 5) x6) (14 + 7 * c + 6) x7) 3 x8 9 = v 9 := by
  repeat rw [upd_n (by omega)]
set_option maxHeartbeats 4000000 in
set_option maxRecDepth 20000 in
theorem c_X7_enters (l : Launch) (z : hZt) {n : Nat} {M : hMem} {R : hRef} (gM : gMd n R) {v : Nat → Int32} {lv c : Nat} (hW : MW v lv c) (hc : c < 20) (x fu y : Int32) : hCt l z m_X7_enters [.ref (z.1 + 215), .int x, .int fu, .int y] n (putRow M 216 v) R n (some (.int (nI c))) (putRow M 216 (mEn v c x fu y)) R := by
  refine hs_start [some (.ref (z.1 + 215)), some (.int x), some (.int fu), some (.int y), none] (by decide +kernel) rfl (by intro u hu; simp at hu; rcases hu with rfl | rfl | rfl | rfl <;> first | rfl | exact isR_cat kv_isR | exact isR_cat aref_isR) (Nat.le_of_ble_eq_true rfl) (Nat.le_refl _) (fun X hlX hN hC hQ => ?_)
  dsimp only at hC hQ
  have hc20 := hW.c20
  have hl16 := hW.l16
  refine gx_aload_n (i := 0) hC dX7_enters_0 rfl rfl (by first | exact Or.inr ⟨_, rfl⟩ | exact Or.inl rfl | exact kv_isR | exact aref_isR) ?_
  refine gx_getR hC dX7_enters_1 fl_X7_7 (by first | exact gM.at215 | exact gM.at216 | exact gM.at217 | exact gM.at218 | exact gM.at219 | exact gM.at220 | exact gM.at221 | exact gM.at222 | exact gM.at223 | exact gM.at224 | exact gM.at225) rfl (gM.r216) (by decide) ?_
  refine gx_iconst (v := nI 3) hC dX7_enters_4 ic_3n ?_
  refine gx_iald hC dX7_enters_5 (by first | exact gM.at215 | exact gM.at216 | exact gM.at217 | exact gM.at218 | exact gM.at219 | exact gM.at220 | exact gM.at221 | exact gM.at222 | exact gM.at223 | exact gM.at224 | exact gM.at225) (by exact vpn (by omega) (by decide)) ((pRn (by omega)).trans hW.ct) ?_
  refine gx_istore (i := 4) (L' := [_, _, _, _, _]) hC dX7_enters_6 (Nat.le_of_ble_eq_true rfl) rfl (fun u h9 => by first | exact Or.inl rfl | (cases h9; done) | (right; cases h9; first | rfl | exact isR_cat aref_isR | exact isR_cat kv_isR)) ?_
  refine gx_aload_n (i := 0) hC dX7_enters_8 rfl rfl (by first | exact Or.inr ⟨_, rfl⟩ | exact Or.inl rfl | exact kv_isR | exact aref_isR) ?_
  refine gx_getR hC dX7_enters_9 fl_X7_7 (by first | exact gM.at215 | exact gM.at216 | exact gM.at217 | exact gM.at218 | exact gM.at219 | exact gM.at220 | exact gM.at221 | exact gM.at222 | exact gM.at223 | exact gM.at224 | exact gM.at225) rfl (gM.r216) (by decide) ?_
  refine gx_iload hC dX7_enters_12 rfl ?_
  refine gx_callS1 hC dX7_enters_14 (c_X7_at _ _ _) kY_X7_at kS_X7_at ml_X7_52 (by decide) rfl rfl rfl (by first | exact Nat.le_of_ble_eq_true rfl | (simp [Value.category, isR_cat kv_isR, isR_cat aref_isR]; done)) (Nat.le_refl _) (Nat.le_refl _) ?_
  refine gx_iload_n (i := 1) hC dX7_enters_17 rfl rfl ?_
  refine gx_iastM hC dX7_enters_18 (by first | exact gM.at215 | exact gM.at216 | exact gM.at217 | exact gM.at218 | exact gM.at219 | exact gM.at220 | exact gM.at221 | exact gM.at222 | exact gM.at223 | exact gM.at224 | exact gM.at225) (by exact vpn (by omega) (by decide)) (up_Rn (by omega)) ?_
  refine gx_aload_n (i := 0) hC dX7_enters_19 rfl rfl (by first | exact Or.inr ⟨_, rfl⟩ | exact Or.inl rfl | exact kv_isR | exact aref_isR) ?_
  refine gx_getR hC dX7_enters_20 fl_X7_7 (by first | exact gM.at215 | exact gM.at216 | exact gM.at217 | exact gM.at218 | exact gM.at219 | exact gM.at220 | exact gM.at221 | exact gM.at222 | exact gM.at223 | exact gM.at224 | exact gM.at225) rfl (gM.r216) (by decide) ?_
  refine gx_iload hC dX7_enters_23 rfl ?_
  refine gx_callS1 hC dX7_enters_25 (c_X7_at _ _ _) kY_X7_at kS_X7_at ml_X7_52 (by decide) rfl rfl rfl (by first | exact Nat.le_of_ble_eq_true rfl | (simp [Value.category, isR_cat kv_isR, isR_cat aref_isR]; done)) (Nat.le_refl _) (Nat.le_refl _) ?_
  refine gx_iconst (v := nI 1) hC dX7_enters_28 ic_1n ?_
  refine gx_iadd hC dX7_enters_29 ?_
  rw [nI_add]
  refine gx_iload_n (i := 2) hC dX7_enters_30 rfl rfl ?_
  refine gx_iastM hC dX7_enters_31 (by first | exact gM.at215 | exact gM.at216 | exact gM.at217 | exact gM.at218 | exact gM.at219 | exact gM.at220 | exact gM.at221 | exact gM.at222 | exact gM.at223 | exact gM.at224 | exact gM.at225) (by exact vpn (by omega) (by decide)) (up_Rn (by omega)) ?_
  refine gx_aload_n (i := 0) hC dX7_enters_32 rfl rfl (by first | exact Or.inr ⟨_, rfl⟩ | exact Or.inl rfl | exact kv_isR | exact aref_isR) ?_
  refine gx_getR hC dX7_enters_33 fl_X7_7 (by first | exact gM.at215 | exact gM.at216 | exact gM.at217 | exact gM.at218 | exact gM.at219 | exact gM.at220 | exact gM.at221 | exact gM.at222 | exact gM.at223 | exact gM.at224 | exact gM.at225) rfl (gM.r216) (by decide) ?_
  refine gx_iload hC dX7_enters_36 rfl ?_
  refine gx_callS1 hC dX7_enters_38 (c_X7_at _ _ _) kY_X7_at kS_X7_at ml_X7_52 (by decide) rfl rfl rfl (by first | exact Nat.le_of_ble_eq_true rfl | (simp [Value.category, isR_cat kv_isR, isR_cat aref_isR]; done)) (Nat.le_refl _) (Nat.le_refl _) ?_
  refine gx_iconst (v := nI 2) hC dX7_enters_41 ic_2n ?_
  refine gx_iadd hC dX7_enters_42 ?_
  rw [nI_add]
  refine gx_iconst (v := 0) hC dX7_enters_43 ic_0 ?_
  refine gx_iastM hC dX7_enters_44 (by first | exact gM.at215 | exact gM.at216 | exact gM.at217 | exact gM.at218 | exact gM.at219 | exact gM.at220 | exact gM.at221 | exact gM.at222 | exact gM.at223 | exact gM.at224 | exact gM.at225) (by exact vpn (by omega) (by decide)) (up_Rn (by omega)) ?_
  refine gx_aload_n (i := 0) hC dX7_enters_45 rfl rfl (by first | exact Or.inr ⟨_, rfl⟩ | exact Or.inl rfl | exact kv_isR | exact aref_isR) ?_
  refine gx_getR hC dX7_enters_46 fl_X7_7 (by first | exact gM.at215 | exact gM.at216 | exact gM.at217 | exact gM.at218 | exact gM.at219 | exact gM.at220 | exact gM.at221 | exact gM.at222 | exact gM.at223 | exact gM.at224 | exact gM.at225) rfl (gM.r216) (by decide) ?_
  refine gx_iload hC dX7_enters_49 rfl ?_
  refine gx_callS1 hC dX7_enters_51 (c_X7_at _ _ _) kY_X7_at kS_X7_at ml_X7_52 (by decide) rfl rfl rfl (by first | exact Nat.le_of_ble_eq_true rfl | (simp [Value.category, isR_cat kv_isR, isR_cat aref_isR]; done)) (Nat.le_refl _) (Nat.le_refl _) ?_
  refine gx_iconst (v := nI 3) hC dX7_enters_54 ic_3n ?_
  refine gx_iadd hC dX7_enters_55 ?_
  rw [nI_add]
  refine gx_iload_n (i := 3) hC dX7_enters_56 rfl rfl ?_
  refine gx_iastM hC dX7_enters_57 (by first | exact gM.at215 | exact gM.at216 | exact gM.at217 | exact gM.at218 | exact gM.at219 | exact gM.at220 | exact gM.at221 | exact gM.at222 | exact gM.at223 | exact gM.at224 | exact gM.at225) (by exact vpn (by omega) (by decide)) (up_Rn (by omega)) ?_
  refine gx_aload_n (i := 0) hC dX7_enters_58 rfl rfl (by first | exact Or.inr ⟨_, rfl⟩ | exact Or.inl rfl | exact kv_isR | exact aref_isR) ?_
  refine gx_getR hC dX7_enters_59 fl_X7_7 (by first | exact gM.at215 | exact gM.at216 | exact gM.at217 | exact gM.at218 | exact gM.at219 | exact gM.at220 | exact gM.at221 | exact gM.at222 | exact gM.at223 | exact gM.at224 | exact gM.at225) rfl (gM.r216) (by decide) ?_
  refine gx_iload hC dX7_enters_62 rfl ?_
  refine gx_callS1 hC dX7_enters_64 (c_X7_at _ _ _) kY_X7_at kS_X7_at ml_X7_52 (by decide) rfl rfl rfl (by first | exact Nat.le_of_ble_eq_true rfl | (simp [Value.category, isR_cat kv_isR, isR_cat aref_isR]; done)) (Nat.le_refl _) (Nat.le_refl _) ?_
  refine gx_iconst (v := nI 4) hC dX7_enters_67 ic_4n ?_
  refine gx_iadd hC dX7_enters_68 ?_
  rw [nI_add]
  refine gx_iconst (v := 1) hC dX7_enters_69 ic_1 ?_
  refine gx_iastM hC dX7_enters_70 (by first | exact gM.at215 | exact gM.at216 | exact gM.at217 | exact gM.at218 | exact gM.at219 | exact gM.at220 | exact gM.at221 | exact gM.at222 | exact gM.at223 | exact gM.at224 | exact gM.at225) (by exact vpn (by omega) (by decide)) (up_Rn (by omega)) ?_
  refine gx_aload_n (i := 0) hC dX7_enters_71 rfl rfl (by first | exact Or.inr ⟨_, rfl⟩ | exact Or.inl rfl | exact kv_isR | exact aref_isR) ?_
  refine gx_getR hC dX7_enters_72 fl_X7_7 (by first | exact gM.at215 | exact gM.at216 | exact gM.at217 | exact gM.at218 | exact gM.at219 | exact gM.at220 | exact gM.at221 | exact gM.at222 | exact gM.at223 | exact gM.at224 | exact gM.at225) rfl (gM.r216) (by decide) ?_
  refine gx_iload hC dX7_enters_75 rfl ?_
  refine gx_callS1 hC dX7_enters_77 (c_X7_at _ _ _) kY_X7_at kS_X7_at ml_X7_52 (by decide) rfl rfl rfl (by first | exact Nat.le_of_ble_eq_true rfl | (simp [Value.category, isR_cat kv_isR, isR_cat aref_isR]; done)) (Nat.le_refl _) (Nat.le_refl _) ?_
  refine gx_iconst (v := nI 5) hC dX7_enters_80 ic_5n ?_
  refine gx_iadd hC dX7_enters_81 ?_
  rw [nI_add]
  refine gx_iconst (v := 0) hC dX7_enters_82 ic_0 ?_
  refine gx_iastM hC dX7_enters_83 (by first | exact gM.at215 | exact gM.at216 | exact gM.at217 | exact gM.at218 | exact gM.at219 | exact gM.at220 | exact gM.at221 | exact gM.at222 | exact gM.at223 | exact gM.at224 | exact gM.at225) (by exact vpn (by omega) (by decide)) (up_Rn (by omega)) ?_
  refine gx_aload_n (i := 0) hC dX7_enters_84 rfl rfl (by first | exact Or.inr ⟨_, rfl⟩ | exact Or.inl rfl | exact kv_isR | exact aref_isR) ?_
  refine gx_getR hC dX7_enters_85 fl_X7_7 (by first | exact gM.at215 | exact gM.at216 | exact gM.at217 | exact gM.at218 | exact gM.at219 | exact gM.at220 | exact gM.at221 | exact gM.at222 | exact gM.at223 | exact gM.at224 | exact gM.at225) rfl (gM.r216) (by decide) ?_
  refine gx_iload hC dX7_enters_88 rfl ?_
  refine gx_callS1 hC dX7_enters_90 (c_X7_at _ _ _) kY_X7_at kS_X7_at ml_X7_52 (by decide) rfl rfl rfl (by first | exact Nat.le_of_ble_eq_true rfl | (simp [Value.category, isR_cat kv_isR, isR_cat aref_isR]; done)) (Nat.le_refl _) (Nat.le_refl _) ?_
  refine gx_bipush (v := nI 6) hC dX7_enters_93 bp_6n ?_
  refine gx_iadd hC dX7_enters_95 ?_
  rw [nI_add]
  refine gx_iconst (v := 0) hC dX7_enters_96 ic_0 ?_
  refine gx_iastM hC dX7_enters_97 (by first | exact gM.at215 | exact gM.at216 | exact gM.at217 | exact gM.at218 | exact gM.at219 | exact gM.at220 | exact gM.at221 | exact gM.at222 | exact gM.at223 | exact gM.at224 | exact gM.at225) (by exact vpn (by omega) (by decide)) (up_Rn (by omega)) ?_
  refine gx_aload_n (i := 0) hC dX7_enters_98 rfl rfl (by first | exact Or.inr ⟨_, rfl⟩ | exact Or.inl rfl | exact kv_isR | exact aref_isR) ?_
  refine gx_getR hC dX7_enters_99 fl_X7_7 (by first | exact gM.at215 | exact gM.at216 | exact gM.at217 | exact gM.at218 | exact gM.at219 | exact gM.at220 | exact gM.at221 | exact gM.at222 | exact gM.at223 | exact gM.at224 | exact gM.at225) rfl (gM.r216) (by decide) ?_
  refine gx_iconst (v := nI 3) hC dX7_enters_102 ic_3n ?_
  refine gx_dup2 hC dX7_enters_103 rfl rfl ?_
  refine gx_iald hC dX7_enters_104 (by exact gM.at216) (by exact vpn (by omega) (by decide)) ((pRn (by omega)).trans (eT hW)) ?_
  refine gx_iconst (v := nI 1) hC dX7_enters_105 ic_1n ?_
  refine gx_iadd hC dX7_enters_106 ?_
  rw [nI_add]
  refine gx_iastM hC dX7_enters_107 (by first | exact gM.at215 | exact gM.at216 | exact gM.at217 | exact gM.at218 | exact gM.at219 | exact gM.at220 | exact gM.at221 | exact gM.at222 | exact gM.at223 | exact gM.at224 | exact gM.at225) (by exact vpn (by omega) (by decide)) (up_Rn (by omega)) ?_
  refine gx_aload_n (i := 0) hC dX7_enters_108 rfl rfl (by first | exact Or.inr ⟨_, rfl⟩ | exact Or.inl rfl | exact kv_isR | exact aref_isR) ?_
  refine gx_getR hC dX7_enters_109 fl_X7_7 (by first | exact gM.at215 | exact gM.at216 | exact gM.at217 | exact gM.at218 | exact gM.at219 | exact gM.at220 | exact gM.at221 | exact gM.at222 | exact gM.at223 | exact gM.at224 | exact gM.at225) rfl (gM.r216) (by decide) ?_
  refine gx_bipush (v := nI 9) hC dX7_enters_112 bp_9n ?_
  refine gx_dup2 hC dX7_enters_114 rfl rfl ?_
  refine gx_iald hC dX7_enters_115 (by first | exact gM.at215 | exact gM.at216 | exact gM.at217 | exact gM.at218 | exact gM.at219 | exact gM.at220 | exact gM.at221 | exact gM.at222 | exact gM.at223 | exact gM.at224 | exact gM.at225) (by exact vpn (by omega) (by decide)) ((pRn (by omega)).trans eT9) ?_
  refine gx_iload_n (i := 2) hC dX7_enters_116 rfl rfl ?_
  refine gx_iadd hC dX7_enters_117 ?_
  refine gx_iastM hC dX7_enters_118 (by first | exact gM.at215 | exact gM.at216 | exact gM.at217 | exact gM.at218 | exact gM.at219 | exact gM.at220 | exact gM.at221 | exact gM.at222 | exact gM.at223 | exact gM.at224 | exact gM.at225) (by exact vpn (by omega) (by decide)) (up_Rn (by omega)) ?_
  refine gx_aload_n (i := 0) hC dX7_enters_119 rfl rfl (by first | exact Or.inr ⟨_, rfl⟩ | exact Or.inl rfl | exact kv_isR | exact aref_isR) ?_
  refine gx_getR hC dX7_enters_120 fl_X7_7 (by first | exact gM.at215 | exact gM.at216 | exact gM.at217 | exact gM.at218 | exact gM.at219 | exact gM.at220 | exact gM.at221 | exact gM.at222 | exact gM.at223 | exact gM.at224 | exact gM.at225) rfl (gM.r216) (by decide) ?_
  refine gx_bipush (v := nI 13) hC dX7_enters_123 bp_13n ?_
  refine gx_iconst (v := 0) hC dX7_enters_125 ic_0 ?_
  refine gx_iastM hC dX7_enters_126 (by first | exact gM.at215 | exact gM.at216 | exact gM.at217 | exact gM.at218 | exact gM.at219 | exact gM.at220 | exact gM.at221 | exact gM.at222 | exact gM.at223 | exact gM.at224 | exact gM.at225) (by exact vpn (by omega) (by decide)) (up_Rn (by omega)) ?_
  refine gx_iload hC dX7_enters_127 rfl ?_
  exact gx_iret hC hQ dX7_enters_129 (rfl) (rfl) rfl
/-- what was recorded, one step back -/
def shf (p : Nat → Int32) (k : Nat) : Nat → Int32 := fun j => if j < k then p (j + 154) else p j
theorem shf_s {p : Nat → Int32} {k : Nat} : upd (shf p k) k (shf p k (k + 154)) = shf p (k + 1) := by
  funext j
  unfold upd shf
  by_cases h : j = k
  · subst h; rw [if_pos rfl, if_neg (by omega), if_pos (by omega)]
  · rw [if_neg h]
    by_cases h2 : j < k
    · rw [if_pos h2, if_pos (by omega)]
    · rw [if_neg h2, if_neg (by omega)]
/-- the first k numbers of v from b on -/
def cpy (p : Nat → Int32) (b : Nat) (v : Nat → Int32) (k : Nat) : Nat → Int32 := fun j => if b ≤ j ∧ j < b + k then v (j - b) else p j
theorem cpy_0 {p : Nat → Int32} {b : Nat} {v : Nat → Int32} : cpy p b v 0 = p := by
  funext j; unfold cpy; rw [if_neg (by omega)]
theorem cpy_s {p : Nat → Int32} {b : Nat} {v : Nat → Int32} {k : Nat} : upd (cpy p b v k) (b + k) (v k) = cpy p b v (k + 1) := by
  funext j
  unfold upd cpy
  by_cases h : j = b + k
  · subst h; rw [if_pos rfl, if_pos (by omega), show b + k - b = k by omega]
  · rw [if_neg h]
    by_cases h2 : b ≤ j ∧ j < b + k
    · rw [if_pos h2, if_pos (by omega)]
    · rw [if_neg h2, if_neg (by omega)]
def mRp (M : hMem) (v : Nat → Int32) (q : Nat) : Nat → Int32 := if q = 5 then cpy (shf (M 217) 616) 616 v 154 else cpy (M 217) (154 * q) v 154
/-- the model's history with v recorded -/
def mRc (M : hMem) (v : Nat → Int32) (q : Nat) : hMem := up2 (putRow M 217 (mRp M v q)) 215 2 (nI (min q 4 + 1))
theorem shf_0 {p : Nat → Int32} : shf p 0 = p := by funext j; unfold shf; rw [if_neg (by omega)]
set_option maxHeartbeats 4000000 in
set_option maxRecDepth 20000 in
theorem c_X7_records (l : Launch) (z : hZt) {n : Nat} {M : hMem} {R : hRef} (gM : gMd n R) {v : Nat → Int32} {q0 : Nat} (hq5 : q0 ≤ 5) (hq : M 215 2 = nI q0) : hCt l z m_X7_records [.ref (z.1 + 215)] n (putRow M 216 v) R n none (putRow (mRc M v q0) 216 v) R := by
  refine hs_start [some (.ref (z.1 + 215)), none] (by decide +kernel) rfl (by intro u hu; simp at hu; subst hu <;> first | rfl | exact isR_cat kv_isR | exact isR_cat aref_isR) (Nat.le_of_ble_eq_true rfl) (Nat.le_refl _) (fun X hlX hN hC hQ => ?_)
  dsimp only at hC hQ
  have tail : ∀ (P : Nat → Int32) (q : Nat) (N : hMem) (u : Option Value), q ≤ 4 → N 215 2 = nI q → putRow (up2 (putRow N 217 (cpy P (154 * q) v 154)) 215 2 (nI (q + 1))) 216 v = putRow (mRc M v q0) 216 v → hG z n X n (putRow (putRow N 217 P) 216 v) R 44 [some (.ref (z.1 + 215)), u] [] := by
    intro P q N u hq4 hq hf
    refine gx_iconst (v := nI 0) hC dX7_records_44 ic_0n ?_
    refine gx_istore_n (i := 1) (L' := [_, _]) hC dX7_records_45 rfl (Nat.le_of_ble_eq_true rfl) rfl (fun u h9 => by first | exact Or.inl rfl | (cases h9; done) | (right; cases h9; first | rfl | exact isR_cat aref_isR | exact isR_cat kv_isR)) ?_
    have loop_46 : ∀ (k : Nat) (a : Nat), 154 - a < k → a ≤ 154 → hG z n X n (putRow (putRow N 217 (cpy P (154 * q) v a)) 216 v) R 46 [some (.ref (z.1 + 215)), some (.int (nI a))] [] := by
      intro k
      induction k with
      | zero => intros; omega
      | succ k ih =>
        intro a hk1 ha
        refine gx_iload_n (i := 1) hC dX7_records_46 rfl rfl ?_
        refine gx_sipush (v := nI 154) hC dX7_records_47 sp_154n ?_
        refine gx_icmp_ge (tgt := 80) hC dX7_records_50 (by decide) (fun c_50 => ?_) (fun c_50 => ?_)
        · have d_50 := cle (by omega) (by omega) c_50
          refine gx_aload_n (i := 0) hC dX7_records_80 rfl rfl (by first | exact Or.inr ⟨_, rfl⟩ | exact Or.inl rfl | exact kv_isR | exact aref_isR) ?_
          refine gx_dup hC dX7_records_81 (by first | rfl | exact isR_cat kv_isR | exact isR_cat aref_isR) ?_
          refine gx_getI hC dX7_records_82 fl_X7_45 (by first | exact gM.at215 | exact gM.at216 | exact gM.at217 | exact gM.at218 | exact gM.at219 | exact gM.at220 | exact gM.at221 | exact gM.at222 | exact gM.at223 | exact gM.at224 | exact gM.at225) (by decide) ((pRo (by decide)).trans ((pRo (by decide)).trans hq)) ?_
          refine gx_iconst (v := nI 1) hC dX7_records_85 ic_1n ?_
          refine gx_iadd hC dX7_records_86 ?_
          rw [nI_add]
          refine gx_putI hC dX7_records_87 fl_X7_45 (by first | exact gM.at215 | exact gM.at216 | exact gM.at217 | exact gM.at218 | exact gM.at219 | exact gM.at220 | exact gM.at221 | exact gM.at222 | exact gM.at223 | exact gM.at224 | exact gM.at225) fn_6_2 rfl (up_Ro (by decide)) ?_
          exact gx_vret hC hQ dX7_records_90 (((show a = 154 by omega) ▸ hf)) rfl
        · have d_50 := cnle (by omega) (by omega) c_50
          refine gx_aload_n (i := 0) hC dX7_records_53 rfl rfl (by first | exact Or.inr ⟨_, rfl⟩ | exact Or.inl rfl | exact kv_isR | exact aref_isR) ?_
          refine gx_getR hC dX7_records_54 fl_X7_13 (by first | exact gM.at215 | exact gM.at216 | exact gM.at217 | exact gM.at218 | exact gM.at219 | exact gM.at220 | exact gM.at221 | exact gM.at222 | exact gM.at223 | exact gM.at224 | exact gM.at225) rfl (gM.r217) (by decide) ?_
          refine gx_sipush (v := nI 154) hC dX7_records_57 sp_154n ?_
          refine gx_aload_n (i := 0) hC dX7_records_60 rfl rfl (by first | exact Or.inr ⟨_, rfl⟩ | exact Or.inl rfl | exact kv_isR | exact aref_isR) ?_
          refine gx_getI hC dX7_records_61 fl_X7_45 (by first | exact gM.at215 | exact gM.at216 | exact gM.at217 | exact gM.at218 | exact gM.at219 | exact gM.at220 | exact gM.at221 | exact gM.at222 | exact gM.at223 | exact gM.at224 | exact gM.at225) (by decide) ((pRo (by decide)).trans ((pRo (by decide)).trans hq)) ?_
          refine gx_imul hC dX7_records_64 ?_
          rw [pk_mul]
          refine gx_iload_n (i := 1) hC dX7_records_65 rfl rfl ?_
          refine gx_iadd hC dX7_records_66 ?_
          rw [nI_add]
          refine gx_aload_n (i := 0) hC dX7_records_67 rfl rfl (by first | exact Or.inr ⟨_, rfl⟩ | exact Or.inl rfl | exact kv_isR | exact aref_isR) ?_
          refine gx_getR hC dX7_records_68 fl_X7_7 (by first | exact gM.at215 | exact gM.at216 | exact gM.at217 | exact gM.at218 | exact gM.at219 | exact gM.at220 | exact gM.at221 | exact gM.at222 | exact gM.at223 | exact gM.at224 | exact gM.at225) rfl (gM.r216) (by decide) ?_
          refine gx_iload_n (i := 1) hC dX7_records_71 rfl rfl ?_
          refine gx_iald hC dX7_records_72 (by first | exact gM.at215 | exact gM.at216 | exact gM.at217 | exact gM.at218 | exact gM.at219 | exact gM.at220 | exact gM.at221 | exact gM.at222 | exact gM.at223 | exact gM.at224 | exact gM.at225) (by exact vpn (by omega) (by decide)) (pRn (by omega)) ?_
          refine gx_iastM hC dX7_records_73 (by first | exact gM.at215 | exact gM.at216 | exact gM.at217 | exact gM.at218 | exact gM.at219 | exact gM.at220 | exact gM.at221 | exact gM.at222 | exact gM.at223 | exact gM.at224 | exact gM.at225) (by exact vpn (by omega) (by decide)) ((up_Ro (by decide)).trans (congrArg (fun t => putRow t 216 v) (up_Rn (by omega)))) ?_
          refine gx_iinc (i := 1) (L' := [_, _]) hC dX7_records_74 rfl (ii_1 _) (Nat.le_of_ble_eq_true rfl) rfl (fun u h9 => by first | exact Or.inl rfl | (cases h9; done) | (right; cases h9; first | rfl | exact isR_cat aref_isR | exact isR_cat kv_isR)) ?_
          refine gx_goto (tgt := 46) hC dX7_records_77 (by decide) ?_
          have h9 := ih (a + 1) (by omega) (by omega)
          rw [← cpy_s] at h9
          exact h9
    have h8 := loop_46 155 0 (by omega) (by omega)
    rw [cpy_0] at h8
    exact h8
  refine gx_aload_n (i := 0) hC dX7_records_0 rfl rfl (by first | exact Or.inr ⟨_, rfl⟩ | exact Or.inl rfl | exact kv_isR | exact aref_isR) ?_
  refine gx_getI hC dX7_records_1 fl_X7_45 (by first | exact gM.at215 | exact gM.at216 | exact gM.at217 | exact gM.at218 | exact gM.at219 | exact gM.at220 | exact gM.at221 | exact gM.at222 | exact gM.at223 | exact gM.at224 | exact gM.at225) (by decide) ((pRo (by decide)).trans hq) ?_
  refine gx_iconst (v := nI 5) hC dX7_records_4 ic_5n ?_
  refine gx_icmp_ne (tgt := 44) hC dX7_records_5 (by decide) (fun c_5 => ?_) (fun c_5 => ?_)
  · have e5 : q0 ≠ 5 := fun e => c_5 (by rw [e])
    have h8 := tail (M 217) q0 M none (by omega) hq (by unfold mRc mRp; rw [if_neg e5, show min q0 4 = q0 by omega])
    rw [putRow_get] at h8
    exact h8
  · refine gx_iconst (v := nI 0) hC dX7_records_8 ic_0n ?_
    refine gx_istore_n (i := 1) (L' := [_, _]) hC dX7_records_9 rfl (Nat.le_of_ble_eq_true rfl) rfl (fun u h9 => by first | exact Or.inl rfl | (cases h9; done) | (right; cases h9; first | rfl | exact isR_cat aref_isR | exact isR_cat kv_isR)) ?_
    have loop_10 : ∀ (k : Nat) (a : Nat), 616 - a < k → a ≤ 616 → hG z n X n (putRow (putRow M 217 (shf (M 217) a)) 216 v) R 10 [some (.ref (z.1 + 215)), some (.int (nI a))] [] := by
      intro k
      induction k with
      | zero => intros; omega
      | succ k ih =>
        intro a hk1 ha
        refine gx_iload_n (i := 1) hC dX7_records_10 rfl rfl ?_
        refine gx_sipush (v := nI 616) hC dX7_records_11 sp_616n ?_
        refine gx_icmp_ge (tgt := 39) hC dX7_records_14 (by decide) (fun c_14 => ?_) (fun c_14 => ?_)
        · have d_14 := cle (by omega) (by omega) c_14
          refine gx_aload_n (i := 0) hC dX7_records_39 rfl rfl (by first | exact Or.inr ⟨_, rfl⟩ | exact Or.inl rfl | exact kv_isR | exact aref_isR) ?_
          refine gx_iconst (v := nI 4) hC dX7_records_40 ic_4n ?_
          refine gx_putI hC dX7_records_41 fl_X7_45 (by first | exact gM.at215 | exact gM.at216 | exact gM.at217 | exact gM.at218 | exact gM.at219 | exact gM.at220 | exact gM.at221 | exact gM.at222 | exact gM.at223 | exact gM.at224 | exact gM.at225) fn_6_2 rfl ((up_Ro (by decide)).trans (congrArg (fun t => putRow t 216 v) (up_Ro (by decide)))) ?_
          exact tail (shf (M 217) a) 4 (up2 M 215 2 (nI 4)) _ (by decide) up2_same (by
            obtain rfl : a = 616 := by omega
            have e5 : q0 = 5 := (nI_eq (by omega) (by decide)).mp c_5
            subst e5
            unfold mRc mRp
            rw [if_pos rfl, up_Ro (by decide), up2_up, up_Ro (by decide)]; rfl)
        · have d_14 := cnle (by omega) (by omega) c_14
          refine gx_aload_n (i := 0) hC dX7_records_17 rfl rfl (by first | exact Or.inr ⟨_, rfl⟩ | exact Or.inl rfl | exact kv_isR | exact aref_isR) ?_
          refine gx_getR hC dX7_records_18 fl_X7_13 (by first | exact gM.at215 | exact gM.at216 | exact gM.at217 | exact gM.at218 | exact gM.at219 | exact gM.at220 | exact gM.at221 | exact gM.at222 | exact gM.at223 | exact gM.at224 | exact gM.at225) rfl (gM.r217) (by decide) ?_
          refine gx_iload_n (i := 1) hC dX7_records_21 rfl rfl ?_
          refine gx_aload_n (i := 0) hC dX7_records_22 rfl rfl (by first | exact Or.inr ⟨_, rfl⟩ | exact Or.inl rfl | exact kv_isR | exact aref_isR) ?_
          refine gx_getR hC dX7_records_23 fl_X7_13 (by first | exact gM.at215 | exact gM.at216 | exact gM.at217 | exact gM.at218 | exact gM.at219 | exact gM.at220 | exact gM.at221 | exact gM.at222 | exact gM.at223 | exact gM.at224 | exact gM.at225) rfl (gM.r217) (by decide) ?_
          refine gx_iload_n (i := 1) hC dX7_records_26 rfl rfl ?_
          refine gx_sipush (v := nI 154) hC dX7_records_27 sp_154n ?_
          refine gx_iadd hC dX7_records_30 ?_
          rw [nI_add]
          refine gx_iald hC dX7_records_31 (by first | exact gM.at215 | exact gM.at216 | exact gM.at217 | exact gM.at218 | exact gM.at219 | exact gM.at220 | exact gM.at221 | exact gM.at222 | exact gM.at223 | exact gM.at224 | exact gM.at225) (by exact vpn (by omega) (by decide)) ((pRo (by decide)).trans (pRn (by omega))) ?_
          refine gx_iastM hC dX7_records_32 (by first | exact gM.at215 | exact gM.at216 | exact gM.at217 | exact gM.at218 | exact gM.at219 | exact gM.at220 | exact gM.at221 | exact gM.at222 | exact gM.at223 | exact gM.at224 | exact gM.at225) (by exact vpn (by omega) (by decide)) ((up_Ro (by decide)).trans (congrArg (fun t => putRow t 216 v) (up_Rn (by omega)))) ?_
          refine gx_iinc (i := 1) (L' := [_, _]) hC dX7_records_33 rfl (ii_1 _) (Nat.le_of_ble_eq_true rfl) rfl (fun u h9 => by first | exact Or.inl rfl | (cases h9; done) | (right; cases h9; first | rfl | exact isR_cat aref_isR | exact isR_cat kv_isR)) ?_
          refine gx_goto (tgt := 10) hC dX7_records_36 (by decide) ?_
          have h9 := ih (a + 1) (by omega) (by omega)
          rw [← shf_s] at h9
          exact h9
    have h8 := loop_10 617 0 (by omega) (by omega)
    rw [shf_0, putRow_get] at h8
    exact h8
theorem mRc_o {M : hMem} {v : Nat → Int32} {q i k : Nat} (h : i ≠ 217) (h2 : i ≠ 215) : mRc M v q i k = M i k := by
  unfold mRc; rw [up2_off (fun e => h2 e.1), pRo h]
theorem CR.rc {M : hMem} {v : Nat → Int32} {q : Nat} (h : CR M) : CR (mRc M v q) := fun x hx => ⟨(mRc_o (by decide) (by decide)).trans (h x hx).1, (mRc_o (by decide) (by decide)).trans (h x hx).2.1, (mRc_o (by decide) (by decide)).trans (h x hx).2.2⟩
theorem mEw_ok {v : Nat → Int32} {x fu y : Int32} (h : ¬ mEw v x fu y < 0) : bIn x 0 2 = true ∧ mLv v y = true ∧ bIn fu 1 9999 = true ∧ ¬ v 3 = 20 := by
  unfold mEw at h
  split at h
  · exact absurd (by decide) h
  · next h1 =>
    split at h
    · exact absurd (by decide) h
    · next h2 =>
      split at h
      · exact absurd (by decide) h
      · next h3 =>
        refine ⟨?_, ?_, ?_, h3⟩
        · cases hh : bIn x 0 2 with
          | true => rfl
          | false => exact absurd (Or.inl hh) h1
        · cases hh : mLv v y with
          | true => rfl
          | false => exact absurd (Or.inr hh) h1
        · cases hh : bIn fu 1 9999 with
          | true => rfl
          | false => exact absurd hh h2
theorem bIn_hk {x : Int32} (h : bIn x 0 2 = true) : hk x := by
  have h := of_decide_eq_true h
  have h1 := Int32.le_iff_toInt_le.mp h.1
  have h2 := Int32.le_iff_toInt_le.mp h.2
  have e0 : (0 : Int32).toInt = 0 := by decide
  have e1 : (1 : Int32).toInt = 1 := by decide
  have e2 : (2 : Int32).toInt = 2 := by decide
  rcases (show x.toInt = 0 ∨ x.toInt = 1 ∨ x.toInt = 2 by omega) with e | e | e
  · exact Or.inl (Int32.toInt_inj.mp (e.trans e0.symm))
  · exact Or.inr (Or.inl (Int32.toInt_inj.mp (e.trans e1.symm)))
  · exact Or.inr (Or.inr (Int32.toInt_inj.mp (e.trans e2.symm)))
def mCw (v : Nat → Int32) (j : Nat) : Int32 := if ¬ v (14 + 7 * j + 2) = 0 ∨ v (14 + 7 * j + 3) = 0 ∨ v (14 + 7 * j + 5) = 1 then -3 else 0
set_option maxHeartbeats 4000000 in
set_option maxRecDepth 20000 in
theorem c_X7_callWrong (l : Launch) (z : hZt) {n : Nat} {M : hMem} {R : hRef} (gM : gMd n R) {v : Nat → Int32} {lv c : Nat} (hW : MW v lv c) {j : Nat} (hj : j < c) : hCt l z m_X7_callWrong [.ref (z.1 + 215), .int (nI j)] n (putRow M 216 v) R n (some (.int (mCw v j))) (putRow M 216 v) R := by
  refine hs_start [some (.ref (z.1 + 215)), some (.int (nI j))] (by decide +kernel) rfl (by intro u hu; simp at hu; rcases hu with rfl | rfl <;> first | rfl | exact isR_cat kv_isR | exact isR_cat aref_isR) (Nat.le_of_ble_eq_true rfl) (Nat.le_refl _) (fun X hlX hN hC hQ => ?_)
  dsimp only at hC hQ
  have hc20 := hW.c20
  have hl16 := hW.l16
  refine gx_aload_n (i := 0) hC dX7_callWrong_0 rfl rfl (by first | exact Or.inr ⟨_, rfl⟩ | exact Or.inl rfl | exact kv_isR | exact aref_isR) ?_
  refine gx_iload_n (i := 1) hC dX7_callWrong_1 rfl rfl ?_
  refine gx_callV1 hC dX7_callWrong_2 (c_X7_isCraft _ _ gM _) kY_X7_isCraft kV_X7_isCraft ml_X7_85 (by first | exact gM.at215 | exact gM.at216 | exact gM.at217 | exact gM.at218 | exact gM.at219 | exact gM.at220 | exact gM.at221 | exact gM.at222 | exact gM.at223 | exact gM.at224 | exact gM.at225) rfl (by decide) rfl rfl rfl (by first | exact Nat.le_of_ble_eq_true rfl | (simp [Value.category, isR_cat kv_isR, isR_cat aref_isR]; done)) (Nat.le_refl _) (Nat.le_refl _) ?_
  refine gx_ifb_ne (tgt := 10) hC dX7_callWrong_5 (by decide) (fun c_5 => ?_) (fun c_5 => ?_)
  · refine gx_aload_n (i := 0) hC dX7_callWrong_10 rfl rfl (by first | exact Or.inr ⟨_, rfl⟩ | exact Or.inl rfl | exact kv_isR | exact aref_isR) ?_
    refine gx_getR hC dX7_callWrong_11 fl_X7_7 (by first | exact gM.at215 | exact gM.at216 | exact gM.at217 | exact gM.at218 | exact gM.at219 | exact gM.at220 | exact gM.at221 | exact gM.at222 | exact gM.at223 | exact gM.at224 | exact gM.at225) rfl (gM.r216) (by decide) ?_
    refine gx_iload_n (i := 1) hC dX7_callWrong_14 rfl rfl ?_
    refine gx_callS1 hC dX7_callWrong_15 (c_X7_at _ _ _) kY_X7_at kS_X7_at ml_X7_52 (by decide) rfl rfl rfl (by first | exact Nat.le_of_ble_eq_true rfl | (simp [Value.category, isR_cat kv_isR, isR_cat aref_isR]; done)) (Nat.le_refl _) (Nat.le_refl _) ?_
    refine gx_iconst (v := nI 2) hC dX7_callWrong_18 ic_2n ?_
    refine gx_iadd hC dX7_callWrong_19 ?_
    rw [nI_add]
    refine gx_iald hC dX7_callWrong_20 (by first | exact gM.at215 | exact gM.at216 | exact gM.at217 | exact gM.at218 | exact gM.at219 | exact gM.at220 | exact gM.at221 | exact gM.at222 | exact gM.at223 | exact gM.at224 | exact gM.at225) (by exact vpn (by omega) (by decide)) (pRn (by omega)) ?_
    refine gx_if_ne (tgt := 53) hC dX7_callWrong_21 (by decide) (fun c_21 => ?_) (fun c_21 => ?_)
    · refine gx_bipush (v := -3) hC dX7_callWrong_53 bp_m3 ?_
      refine gx_goto (tgt := 59) hC dX7_callWrong_55 (by decide) ?_
      exact gx_iret hC hQ dX7_callWrong_59 ((by simp [mCw, c_5, c_21])) (rfl) rfl
    · refine gx_aload_n (i := 0) hC dX7_callWrong_24 rfl rfl (by first | exact Or.inr ⟨_, rfl⟩ | exact Or.inl rfl | exact kv_isR | exact aref_isR) ?_
      refine gx_getR hC dX7_callWrong_25 fl_X7_7 (by first | exact gM.at215 | exact gM.at216 | exact gM.at217 | exact gM.at218 | exact gM.at219 | exact gM.at220 | exact gM.at221 | exact gM.at222 | exact gM.at223 | exact gM.at224 | exact gM.at225) rfl (gM.r216) (by decide) ?_
      refine gx_iload_n (i := 1) hC dX7_callWrong_28 rfl rfl ?_
      refine gx_callS1 hC dX7_callWrong_29 (c_X7_at _ _ _) kY_X7_at kS_X7_at ml_X7_52 (by decide) rfl rfl rfl (by first | exact Nat.le_of_ble_eq_true rfl | (simp [Value.category, isR_cat kv_isR, isR_cat aref_isR]; done)) (Nat.le_refl _) (Nat.le_refl _) ?_
      refine gx_iconst (v := nI 3) hC dX7_callWrong_32 ic_3n ?_
      refine gx_iadd hC dX7_callWrong_33 ?_
      rw [nI_add]
      refine gx_iald hC dX7_callWrong_34 (by first | exact gM.at215 | exact gM.at216 | exact gM.at217 | exact gM.at218 | exact gM.at219 | exact gM.at220 | exact gM.at221 | exact gM.at222 | exact gM.at223 | exact gM.at224 | exact gM.at225) (by exact vpn (by omega) (by decide)) (pRn (by omega)) ?_
      refine gx_if_eq (tgt := 53) hC dX7_callWrong_35 (by decide) (fun c_35 => ?_) (fun c_35 => ?_)
      · refine gx_bipush (v := -3) hC dX7_callWrong_53 bp_m3 ?_
        refine gx_goto (tgt := 59) hC dX7_callWrong_55 (by decide) ?_
        exact gx_iret hC hQ dX7_callWrong_59 ((by simp [mCw, c_5, c_21, c_35])) (rfl) rfl
      · refine gx_aload_n (i := 0) hC dX7_callWrong_38 rfl rfl (by first | exact Or.inr ⟨_, rfl⟩ | exact Or.inl rfl | exact kv_isR | exact aref_isR) ?_
        refine gx_getR hC dX7_callWrong_39 fl_X7_7 (by first | exact gM.at215 | exact gM.at216 | exact gM.at217 | exact gM.at218 | exact gM.at219 | exact gM.at220 | exact gM.at221 | exact gM.at222 | exact gM.at223 | exact gM.at224 | exact gM.at225) rfl (gM.r216) (by decide) ?_
        refine gx_iload_n (i := 1) hC dX7_callWrong_42 rfl rfl ?_
        refine gx_callS1 hC dX7_callWrong_43 (c_X7_at _ _ _) kY_X7_at kS_X7_at ml_X7_52 (by decide) rfl rfl rfl (by first | exact Nat.le_of_ble_eq_true rfl | (simp [Value.category, isR_cat kv_isR, isR_cat aref_isR]; done)) (Nat.le_refl _) (Nat.le_refl _) ?_
        refine gx_iconst (v := nI 5) hC dX7_callWrong_46 ic_5n ?_
        refine gx_iadd hC dX7_callWrong_47 ?_
        rw [nI_add]
        refine gx_iald hC dX7_callWrong_48 (by first | exact gM.at215 | exact gM.at216 | exact gM.at217 | exact gM.at218 | exact gM.at219 | exact gM.at220 | exact gM.at221 | exact gM.at222 | exact gM.at223 | exact gM.at224 | exact gM.at225) (by exact vpn (by omega) (by decide)) (pRn (by omega)) ?_
        refine gx_iconst (v := 1) hC dX7_callWrong_49 ic_1 ?_
        refine gx_icmp_ne (tgt := 58) hC dX7_callWrong_50 (by decide) (fun c_50 => ?_) (fun c_50 => ?_)
        · refine gx_iconst (v := 0) hC dX7_callWrong_58 ic_0 ?_
          exact gx_iret hC hQ dX7_callWrong_59 ((by simp [mCw, c_5, c_21, c_35, c_50])) (rfl) rfl
        · refine gx_bipush (v := -3) hC dX7_callWrong_53 bp_m3 ?_
          refine gx_goto (tgt := 59) hC dX7_callWrong_55 (by decide) ?_
          exact gx_iret hC hQ dX7_callWrong_59 ((by simp [mCw, c_5, c_21, c_35, c_50])) (rfl) rfl
  · exact absurd (mCr_n hW hj) (by rw [c_5]; decide)
set_option maxHeartbeats 4000000 in
set_option maxRecDepth 20000 in
theorem c1_X7_callWrong (l : Launch) (z : hZt) {n : Nat} {M : hMem} {R : hRef} (gM : gMd n R) {v : Nat → Int32} {x : Int32} (hx : mCr v x = false) : hCt l z m_X7_callWrong [.ref (z.1 + 215), .int x] n (putRow M 216 v) R n (some (.int (-1))) (putRow M 216 v) R := by
  refine hs_start [some (.ref (z.1 + 215)), some (.int x)] (by decide +kernel) rfl (by intro u hu; simp at hu; rcases hu with rfl | rfl <;> first | rfl | exact isR_cat kv_isR | exact isR_cat aref_isR) (Nat.le_of_ble_eq_true rfl) (Nat.le_refl _) (fun X hlX hN hC hQ => ?_)
  dsimp only at hC hQ
  refine gx_aload_n (i := 0) hC dX7_callWrong_0 rfl rfl (by first | exact Or.inr ⟨_, rfl⟩ | exact Or.inl rfl | exact kv_isR | exact aref_isR) ?_
  refine gx_iload_n (i := 1) hC dX7_callWrong_1 rfl rfl ?_
  refine gx_callV1 hC dX7_callWrong_2 (c_X7_isCraft _ _ gM _) kY_X7_isCraft kV_X7_isCraft ml_X7_85 (by first | exact gM.at215 | exact gM.at216 | exact gM.at217 | exact gM.at218 | exact gM.at219 | exact gM.at220 | exact gM.at221 | exact gM.at222 | exact gM.at223 | exact gM.at224 | exact gM.at225) rfl (by decide) rfl rfl rfl (by first | exact Nat.le_of_ble_eq_true rfl | (simp [Value.category, isR_cat kv_isR, isR_cat aref_isR]; done)) (Nat.le_refl _) (Nat.le_refl _) ?_
  refine gx_ifb_ne (tgt := 10) hC dX7_callWrong_5 (by decide) (fun c_5 => ?_) (fun c_5 => ?_)
  · exact absurd hx (by rw [c_5]; decide)
  · refine gx_iconst (v := -1) hC dX7_callWrong_8 ic_m1 ?_
    exact gx_iret hC hQ dX7_callWrong_9 (rfl) (rfl) rfl
set_option maxHeartbeats 4000000 in
set_option maxRecDepth 20000 in
theorem c1_X7_call (l : Launch) (z : hZt) {n : Nat} {M : hMem} {R : hRef} (gM : gMd n R) {v : Nat → Int32} {x : Int32} (hx : mCr v x = false) : hCt l z m_X7_call [.ref (z.1 + 215), .int x] n (putRow M 216 v) R n (some (.int (-1))) (putRow M 216 v) R := by
  refine hs_start [some (.ref (z.1 + 215)), some (.int x), none] (by decide +kernel) rfl (by intro u hu; simp at hu; rcases hu with rfl | rfl <;> first | rfl | exact isR_cat kv_isR | exact isR_cat aref_isR) (Nat.le_of_ble_eq_true rfl) (Nat.le_refl _) (fun X hlX hN hC hQ => ?_)
  dsimp only at hC hQ
  refine gx_aload_n (i := 0) hC dX7_call_0 rfl rfl (by first | exact Or.inr ⟨_, rfl⟩ | exact Or.inl rfl | exact kv_isR | exact aref_isR) ?_
  refine gx_iload_n (i := 1) hC dX7_call_1 rfl rfl ?_
  refine gx_callV1 hC dX7_call_2 (c1_X7_callWrong _ _ gM hx) kY_X7_callWrong kV_X7_callWrong ml_X7_88 (by first | exact gM.at215 | exact gM.at216 | exact gM.at217 | exact gM.at218 | exact gM.at219 | exact gM.at220 | exact gM.at221 | exact gM.at222 | exact gM.at223 | exact gM.at224 | exact gM.at225) rfl (by decide) rfl rfl rfl (by first | exact Nat.le_of_ble_eq_true rfl | (simp [Value.category, isR_cat kv_isR, isR_cat aref_isR]; done)) (Nat.le_refl _) (Nat.le_refl _) ?_
  refine gx_istore_n (i := 2) (L' := [_, _, _]) hC dX7_call_5 rfl (Nat.le_of_ble_eq_true rfl) rfl (fun u h9 => by first | exact Or.inl rfl | (cases h9; done) | (right; cases h9; first | rfl | exact isR_cat aref_isR | exact isR_cat kv_isR)) ?_
  refine gx_iload_n (i := 2) hC dX7_call_6 rfl rfl ?_
  refine gx_if_ge (tgt := 12) hC dX7_call_7 (by decide) (fun c_7 => ?_) (fun c_7 => ?_)
  · exact absurd c_7 (by decide)
  · refine gx_iload_n (i := 2) hC dX7_call_10 rfl rfl ?_
    exact gx_iret hC hQ dX7_call_11 (rfl) (rfl) rfl
set_option maxHeartbeats 4000000 in
set_option maxRecDepth 20000 in
theorem c0_X7_call (l : Launch) (z : hZt) {n : Nat} {M : hMem} {R : hRef} (gM : gMd n R) {v : Nat → Int32} {lv c : Nat} (hW : MW v lv c) {j : Nat} (hj : j < c) (hw : mCw v j < 0) : hCt l z m_X7_call [.ref (z.1 + 215), .int (nI j)] n (putRow M 216 v) R n (some (.int (mCw v j))) (putRow M 216 v) R := by
  refine hs_start [some (.ref (z.1 + 215)), some (.int (nI j)), none] (by decide +kernel) rfl (by intro u hu; simp at hu; rcases hu with rfl | rfl <;> first | rfl | exact isR_cat kv_isR | exact isR_cat aref_isR) (Nat.le_of_ble_eq_true rfl) (Nat.le_refl _) (fun X hlX hN hC hQ => ?_)
  dsimp only at hC hQ
  refine gx_aload_n (i := 0) hC dX7_call_0 rfl rfl (by first | exact Or.inr ⟨_, rfl⟩ | exact Or.inl rfl | exact kv_isR | exact aref_isR) ?_
  refine gx_iload_n (i := 1) hC dX7_call_1 rfl rfl ?_
  refine gx_callV1 hC dX7_call_2 (c_X7_callWrong _ _ gM hW hj) kY_X7_callWrong kV_X7_callWrong ml_X7_88 (by first | exact gM.at215 | exact gM.at216 | exact gM.at217 | exact gM.at218 | exact gM.at219 | exact gM.at220 | exact gM.at221 | exact gM.at222 | exact gM.at223 | exact gM.at224 | exact gM.at225) rfl (by decide) rfl rfl rfl (by first | exact Nat.le_of_ble_eq_true rfl | (simp [Value.category, isR_cat kv_isR, isR_cat aref_isR]; done)) (Nat.le_refl _) (Nat.le_refl _) ?_
  refine gx_istore_n (i := 2) (L' := [_, _, _]) hC dX7_call_5 rfl (Nat.le_of_ble_eq_true rfl) rfl (fun u h9 => by first | exact Or.inl rfl | (cases h9; done) | (right; cases h9; first | rfl | exact isR_cat aref_isR | exact isR_cat kv_isR)) ?_
  refine gx_iload_n (i := 2) hC dX7_call_6 rfl rfl ?_
  refine gx_if_ge (tgt := 12) hC dX7_call_7 (by decide) (fun c_7 => ?_) (fun c_7 => ?_)
  · exact absurd hw (Int32.not_lt.mpr c_7)
  · refine gx_iload_n (i := 2) hC dX7_call_10 rfl rfl ?_
    exact gx_iret hC hQ dX7_call_11 (rfl) (rfl) rfl
set_option maxHeartbeats 4000000 in
set_option maxRecDepth 20000 in
theorem c_X7_call (l : Launch) (z : hZt) {n : Nat} {M : hMem} {R : hRef} (gM : gMd n R) {v : Nat → Int32} {lv c : Nat} (hW : MW v lv c) {q : Nat} (hq5 : q ≤ 5) (hq : M 215 2 = nI q) {j : Nat} (hj : j < c) (hw : ¬ mCw v j < 0) : hCt l z m_X7_call [.ref (z.1 + 215), .int (nI j)] n (putRow M 216 v) R n (some (.int (v (14 + 7 * j + 3)))) (putRow (mRc M v q) 216 (upd v (14 + 7 * j + 5) 1)) R := by
  refine hs_start [some (.ref (z.1 + 215)), some (.int (nI j)), none] (by decide +kernel) rfl (by intro u hu; simp at hu; rcases hu with rfl | rfl <;> first | rfl | exact isR_cat kv_isR | exact isR_cat aref_isR) (Nat.le_of_ble_eq_true rfl) (Nat.le_refl _) (fun X hlX hN hC hQ => ?_)
  dsimp only at hC hQ
  have hc20 := hW.c20
  have hl16 := hW.l16
  refine gx_aload_n (i := 0) hC dX7_call_0 rfl rfl (by first | exact Or.inr ⟨_, rfl⟩ | exact Or.inl rfl | exact kv_isR | exact aref_isR) ?_
  refine gx_iload_n (i := 1) hC dX7_call_1 rfl rfl ?_
  refine gx_callV1 hC dX7_call_2 (c_X7_callWrong _ _ gM hW hj) kY_X7_callWrong kV_X7_callWrong ml_X7_88 (by first | exact gM.at215 | exact gM.at216 | exact gM.at217 | exact gM.at218 | exact gM.at219 | exact gM.at220 | exact gM.at221 | exact gM.at222 | exact gM.at223 | exact gM.at224 | exact gM.at225) rfl (by decide) rfl rfl rfl (by first | exact Nat.le_of_ble_eq_true rfl | (simp [Value.category, isR_cat kv_isR, isR_cat aref_isR]; done)) (Nat.le_refl _) (Nat.le_refl _) ?_
  refine gx_istore_n (i := 2) (L' := [_, _, _]) hC dX7_call_5 rfl (Nat.le_of_ble_eq_true rfl) rfl (fun u h9 => by first | exact Or.inl rfl | (cases h9; done) | (right; cases h9; first | rfl | exact isR_cat aref_isR | exact isR_cat kv_isR)) ?_
  refine gx_iload_n (i := 2) hC dX7_call_6 rfl rfl ?_
  refine gx_if_ge (tgt := 12) hC dX7_call_7 (by decide) (fun c_7 => ?_) (fun c_7 => ?_)
  · refine gx_aload_n (i := 0) hC dX7_call_12 rfl rfl (by first | exact Or.inr ⟨_, rfl⟩ | exact Or.inl rfl | exact kv_isR | exact aref_isR) ?_
    refine gx_callV0 hC dX7_call_13 (c_X7_records _ _ gM hq5 hq) kY_X7_records kV_X7_records ml_X7_49 (by first | exact gM.at215 | exact gM.at216 | exact gM.at217 | exact gM.at218 | exact gM.at219 | exact gM.at220 | exact gM.at221 | exact gM.at222 | exact gM.at223 | exact gM.at224 | exact gM.at225) rfl (by decide) rfl rfl rfl (by first | exact Nat.le_of_ble_eq_true rfl | (simp [Value.category, isR_cat kv_isR, isR_cat aref_isR]; done)) (Nat.le_refl _) (Nat.le_refl _) ?_
    refine gx_aload_n (i := 0) hC dX7_call_16 rfl rfl (by first | exact Or.inr ⟨_, rfl⟩ | exact Or.inl rfl | exact kv_isR | exact aref_isR) ?_
    refine gx_getR hC dX7_call_17 fl_X7_7 (by first | exact gM.at215 | exact gM.at216 | exact gM.at217 | exact gM.at218 | exact gM.at219 | exact gM.at220 | exact gM.at221 | exact gM.at222 | exact gM.at223 | exact gM.at224 | exact gM.at225) rfl (gM.r216) (by decide) ?_
    refine gx_iload_n (i := 1) hC dX7_call_20 rfl rfl ?_
    refine gx_callS1 hC dX7_call_21 (c_X7_at _ _ _) kY_X7_at kS_X7_at ml_X7_52 (by decide) rfl rfl rfl (by first | exact Nat.le_of_ble_eq_true rfl | (simp [Value.category, isR_cat kv_isR, isR_cat aref_isR]; done)) (Nat.le_refl _) (Nat.le_refl _) ?_
    refine gx_iconst (v := nI 5) hC dX7_call_24 ic_5n ?_
    refine gx_iadd hC dX7_call_25 ?_
    rw [nI_add]
    refine gx_iconst (v := 1) hC dX7_call_26 ic_1 ?_
    refine gx_iastM hC dX7_call_27 (by first | exact gM.at215 | exact gM.at216 | exact gM.at217 | exact gM.at218 | exact gM.at219 | exact gM.at220 | exact gM.at221 | exact gM.at222 | exact gM.at223 | exact gM.at224 | exact gM.at225) (by exact vpn (by omega) (by decide)) (up_Rn (by omega)) ?_
    refine gx_aload_n (i := 0) hC dX7_call_28 rfl rfl (by first | exact Or.inr ⟨_, rfl⟩ | exact Or.inl rfl | exact kv_isR | exact aref_isR) ?_
    refine gx_getR hC dX7_call_29 fl_X7_7 (by first | exact gM.at215 | exact gM.at216 | exact gM.at217 | exact gM.at218 | exact gM.at219 | exact gM.at220 | exact gM.at221 | exact gM.at222 | exact gM.at223 | exact gM.at224 | exact gM.at225) rfl (gM.r216) (by decide) ?_
    refine gx_iload_n (i := 1) hC dX7_call_32 rfl rfl ?_
    refine gx_callS1 hC dX7_call_33 (c_X7_at _ _ _) kY_X7_at kS_X7_at ml_X7_52 (by decide) rfl rfl rfl (by first | exact Nat.le_of_ble_eq_true rfl | (simp [Value.category, isR_cat kv_isR, isR_cat aref_isR]; done)) (Nat.le_refl _) (Nat.le_refl _) ?_
    refine gx_iconst (v := nI 3) hC dX7_call_36 ic_3n ?_
    refine gx_iadd hC dX7_call_37 ?_
    rw [nI_add]
    refine gx_iald hC dX7_call_38 (by first | exact gM.at215 | exact gM.at216 | exact gM.at217 | exact gM.at218 | exact gM.at219 | exact gM.at220 | exact gM.at221 | exact gM.at222 | exact gM.at223 | exact gM.at224 | exact gM.at225) (by exact vpn (by omega) (by decide)) ((pRn (by omega)).trans (upd_n (by omega))) ?_
    exact gx_iret hC hQ dX7_call_39 (rfl) (rfl) rfl
  · exact absurd (Int32.not_le.mp c_7) hw
set_option maxHeartbeats 4000000 in
set_option maxRecDepth 20000 in
theorem c0_X7_enter (l : Launch) (z : hZt) {n : Nat} {M : hMem} {R : hRef} (gM : gMd n R) {v : Nat → Int32} {x fu y : Int32} (hw : mEw v x fu y < 0) : hCt l z m_X7_enter [.ref (z.1 + 215), .int x, .int fu, .int y] n (putRow M 216 v) R n (some (.int (mEw v x fu y))) (putRow M 216 v) R := by
  refine hs_start [some (.ref (z.1 + 215)), some (.int x), some (.int fu), some (.int y), none, none] (by decide +kernel) rfl (by intro u hu; simp at hu; rcases hu with rfl | rfl | rfl | rfl <;> first | rfl | exact isR_cat kv_isR | exact isR_cat aref_isR) (Nat.le_of_ble_eq_true rfl) (Nat.le_refl _) (fun X hlX hN hC hQ => ?_)
  dsimp only at hC hQ
  refine gx_aload_n (i := 0) hC dX7_enter_0 rfl rfl (by first | exact Or.inr ⟨_, rfl⟩ | exact Or.inl rfl | exact kv_isR | exact aref_isR) ?_
  refine gx_iload_n (i := 1) hC dX7_enter_1 rfl rfl ?_
  refine gx_iload_n (i := 2) hC dX7_enter_2 rfl rfl ?_
  refine gx_iload_n (i := 3) hC dX7_enter_3 rfl rfl ?_
  refine gx_callV1 hC dX7_enter_4 (c_X7_enterWrong _ _ gM _ _ _) kY_X7_enterWrong kV_X7_enterWrong ml_X7_75 (by first | exact gM.at215 | exact gM.at216 | exact gM.at217 | exact gM.at218 | exact gM.at219 | exact gM.at220 | exact gM.at221 | exact gM.at222 | exact gM.at223 | exact gM.at224 | exact gM.at225) rfl (by decide) rfl rfl rfl (by first | exact Nat.le_of_ble_eq_true rfl | (simp [Value.category, isR_cat kv_isR, isR_cat aref_isR]; done)) (Nat.le_refl _) (Nat.le_refl _) ?_
  refine gx_istore (i := 4) (L' := [_, _, _, _, _, _]) hC dX7_enter_7 (Nat.le_of_ble_eq_true rfl) rfl (fun u h9 => by first | exact Or.inl rfl | (cases h9; done) | (right; cases h9; first | rfl | exact isR_cat aref_isR | exact isR_cat kv_isR)) ?_
  refine gx_iload hC dX7_enter_9 rfl ?_
  refine gx_if_ge (tgt := 17) hC dX7_enter_11 (by decide) (fun c_11 => ?_) (fun c_11 => ?_)
  · exact absurd hw (Int32.not_lt.mpr c_11)
  · refine gx_iload hC dX7_enter_14 rfl ?_
    exact gx_iret hC hQ dX7_enter_16 (rfl) (rfl) rfl
set_option maxHeartbeats 4000000 in
set_option maxRecDepth 20000 in
theorem c1_X7_enter (l : Launch) (z : hZt) {n : Nat} {M : hMem} {R : hRef} (gM : gMd n R) {v : Nat → Int32} {lv c : Nat} (hW : MW v lv c) (hR3 : CR M) {x fu y : Int32} (hw : ¬ mEw v x fu y < 0) (hr : 0 < mRf v c x fu y) : hCt l z m_X7_enter [.ref (z.1 + 215), .int x, .int fu, .int y] n (putRow M 216 v) R n (some (.int (-5))) (putRow M 216 (upd v 13 (mRf v c x fu y))) R := by
  refine hs_start [some (.ref (z.1 + 215)), some (.int x), some (.int fu), some (.int y), none, none] (by decide +kernel) rfl (by intro u hu; simp at hu; rcases hu with rfl | rfl | rfl | rfl <;> first | rfl | exact isR_cat kv_isR | exact isR_cat aref_isR) (Nat.le_of_ble_eq_true rfl) (Nat.le_refl _) (fun X hlX hN hC hQ => ?_)
  dsimp only at hC hQ
  refine gx_aload_n (i := 0) hC dX7_enter_0 rfl rfl (by first | exact Or.inr ⟨_, rfl⟩ | exact Or.inl rfl | exact kv_isR | exact aref_isR) ?_
  refine gx_iload_n (i := 1) hC dX7_enter_1 rfl rfl ?_
  refine gx_iload_n (i := 2) hC dX7_enter_2 rfl rfl ?_
  refine gx_iload_n (i := 3) hC dX7_enter_3 rfl rfl ?_
  refine gx_callV1 hC dX7_enter_4 (c_X7_enterWrong _ _ gM _ _ _) kY_X7_enterWrong kV_X7_enterWrong ml_X7_75 (by first | exact gM.at215 | exact gM.at216 | exact gM.at217 | exact gM.at218 | exact gM.at219 | exact gM.at220 | exact gM.at221 | exact gM.at222 | exact gM.at223 | exact gM.at224 | exact gM.at225) rfl (by decide) rfl rfl rfl (by first | exact Nat.le_of_ble_eq_true rfl | (simp [Value.category, isR_cat kv_isR, isR_cat aref_isR]; done)) (Nat.le_refl _) (Nat.le_refl _) ?_
  refine gx_istore (i := 4) (L' := [_, _, _, _, _, _]) hC dX7_enter_7 (Nat.le_of_ble_eq_true rfl) rfl (fun u h9 => by first | exact Or.inl rfl | (cases h9; done) | (right; cases h9; first | rfl | exact isR_cat aref_isR | exact isR_cat kv_isR)) ?_
  refine gx_iload hC dX7_enter_9 rfl ?_
  refine gx_if_ge (tgt := 17) hC dX7_enter_11 (by decide) (fun c_11 => ?_) (fun c_11 => ?_)
  · have hx := bIn_hk (mEw_ok hw).1
    refine gx_aload_n (i := 0) hC dX7_enter_17 rfl rfl (by first | exact Or.inr ⟨_, rfl⟩ | exact Or.inl rfl | exact kv_isR | exact aref_isR) ?_
    refine gx_iload_n (i := 1) hC dX7_enter_18 rfl rfl ?_
    refine gx_iload_n (i := 2) hC dX7_enter_19 rfl rfl ?_
    refine gx_iload_n (i := 3) hC dX7_enter_20 rfl rfl ?_
    refine gx_callV1 hC dX7_enter_21 (c_X7_refusal _ _ gM hW hR3 hx _ _) kY_X7_refusal kV_X7_refusal ml_X7_79 (by first | exact gM.at215 | exact gM.at216 | exact gM.at217 | exact gM.at218 | exact gM.at219 | exact gM.at220 | exact gM.at221 | exact gM.at222 | exact gM.at223 | exact gM.at224 | exact gM.at225) rfl (by decide) rfl rfl rfl (by first | exact Nat.le_of_ble_eq_true rfl | (simp [Value.category, isR_cat kv_isR, isR_cat aref_isR]; done)) (Nat.le_refl _) (Nat.le_refl _) ?_
    refine gx_istore (i := 5) (L' := [_, _, _, _, _, _]) hC dX7_enter_24 (Nat.le_of_ble_eq_true rfl) rfl (fun u h9 => by first | exact Or.inl rfl | (cases h9; done) | (right; cases h9; first | rfl | exact isR_cat aref_isR | exact isR_cat kv_isR)) ?_
    refine gx_iload hC dX7_enter_26 rfl ?_
    refine gx_if_le (tgt := 43) hC dX7_enter_28 (by decide) (fun c_28 => ?_) (fun c_28 => ?_)
    · exact absurd hr (Int32.not_lt.mpr c_28)
    · refine gx_aload_n (i := 0) hC dX7_enter_31 rfl rfl (by first | exact Or.inr ⟨_, rfl⟩ | exact Or.inl rfl | exact kv_isR | exact aref_isR) ?_
      refine gx_getR hC dX7_enter_32 fl_X7_7 (by first | exact gM.at215 | exact gM.at216 | exact gM.at217 | exact gM.at218 | exact gM.at219 | exact gM.at220 | exact gM.at221 | exact gM.at222 | exact gM.at223 | exact gM.at224 | exact gM.at225) rfl (gM.r216) (by decide) ?_
      refine gx_bipush (v := nI 13) hC dX7_enter_35 bp_13n ?_
      refine gx_iload hC dX7_enter_37 rfl ?_
      refine gx_iastM hC dX7_enter_39 (by first | exact gM.at215 | exact gM.at216 | exact gM.at217 | exact gM.at218 | exact gM.at219 | exact gM.at220 | exact gM.at221 | exact gM.at222 | exact gM.at223 | exact gM.at224 | exact gM.at225) (by exact vpn (by omega) (by decide)) (up_Rn (by omega)) ?_
      refine gx_bipush (v := -5) hC dX7_enter_40 bp_m5 ?_
      exact gx_iret hC hQ dX7_enter_42 (rfl) (rfl) rfl
  · exact absurd (Int32.not_le.mp c_11) hw
set_option maxHeartbeats 4000000 in
set_option maxRecDepth 20000 in
theorem c_X7_enter (l : Launch) (z : hZt) {n : Nat} {M : hMem} {R : hRef} (gM : gMd n R) {v : Nat → Int32} {lv c : Nat} (hW : MW v lv c) (hR3 : CR M) {q : Nat} (hq5 : q ≤ 5) (hq : M 215 2 = nI q) {x fu y : Int32} (hw : ¬ mEw v x fu y < 0) (hr : ¬ 0 < mRf v c x fu y) : hCt l z m_X7_enter [.ref (z.1 + 215), .int x, .int fu, .int y] n (putRow M 216 v) R n (some (.int (nI c))) (putRow (mRc M v q) 216 (mEn v c x fu y)) R := by
  refine hs_start [some (.ref (z.1 + 215)), some (.int x), some (.int fu), some (.int y), none, none] (by decide +kernel) rfl (by intro u hu; simp at hu; rcases hu with rfl | rfl | rfl | rfl <;> first | rfl | exact isR_cat kv_isR | exact isR_cat aref_isR) (Nat.le_of_ble_eq_true rfl) (Nat.le_refl _) (fun X hlX hN hC hQ => ?_)
  dsimp only at hC hQ
  refine gx_aload_n (i := 0) hC dX7_enter_0 rfl rfl (by first | exact Or.inr ⟨_, rfl⟩ | exact Or.inl rfl | exact kv_isR | exact aref_isR) ?_
  refine gx_iload_n (i := 1) hC dX7_enter_1 rfl rfl ?_
  refine gx_iload_n (i := 2) hC dX7_enter_2 rfl rfl ?_
  refine gx_iload_n (i := 3) hC dX7_enter_3 rfl rfl ?_
  refine gx_callV1 hC dX7_enter_4 (c_X7_enterWrong _ _ gM _ _ _) kY_X7_enterWrong kV_X7_enterWrong ml_X7_75 (by first | exact gM.at215 | exact gM.at216 | exact gM.at217 | exact gM.at218 | exact gM.at219 | exact gM.at220 | exact gM.at221 | exact gM.at222 | exact gM.at223 | exact gM.at224 | exact gM.at225) rfl (by decide) rfl rfl rfl (by first | exact Nat.le_of_ble_eq_true rfl | (simp [Value.category, isR_cat kv_isR, isR_cat aref_isR]; done)) (Nat.le_refl _) (Nat.le_refl _) ?_
  refine gx_istore (i := 4) (L' := [_, _, _, _, _, _]) hC dX7_enter_7 (Nat.le_of_ble_eq_true rfl) rfl (fun u h9 => by first | exact Or.inl rfl | (cases h9; done) | (right; cases h9; first | rfl | exact isR_cat aref_isR | exact isR_cat kv_isR)) ?_
  refine gx_iload hC dX7_enter_9 rfl ?_
  refine gx_if_ge (tgt := 17) hC dX7_enter_11 (by decide) (fun c_11 => ?_) (fun c_11 => ?_)
  · have hx := bIn_hk (mEw_ok hw).1
    have hc20 := hW.c20
    have hc : c < 20 := Nat.lt_of_le_of_ne hc20 (fun e => (mEw_ok hw).2.2.2 (by rw [hW.ct, e]; rfl))
    refine gx_aload_n (i := 0) hC dX7_enter_17 rfl rfl (by first | exact Or.inr ⟨_, rfl⟩ | exact Or.inl rfl | exact kv_isR | exact aref_isR) ?_
    refine gx_iload_n (i := 1) hC dX7_enter_18 rfl rfl ?_
    refine gx_iload_n (i := 2) hC dX7_enter_19 rfl rfl ?_
    refine gx_iload_n (i := 3) hC dX7_enter_20 rfl rfl ?_
    refine gx_callV1 hC dX7_enter_21 (c_X7_refusal _ _ gM hW hR3 hx _ _) kY_X7_refusal kV_X7_refusal ml_X7_79 (by first | exact gM.at215 | exact gM.at216 | exact gM.at217 | exact gM.at218 | exact gM.at219 | exact gM.at220 | exact gM.at221 | exact gM.at222 | exact gM.at223 | exact gM.at224 | exact gM.at225) rfl (by decide) rfl rfl rfl (by first | exact Nat.le_of_ble_eq_true rfl | (simp [Value.category, isR_cat kv_isR, isR_cat aref_isR]; done)) (Nat.le_refl _) (Nat.le_refl _) ?_
    refine gx_istore (i := 5) (L' := [_, _, _, _, _, _]) hC dX7_enter_24 (Nat.le_of_ble_eq_true rfl) rfl (fun u h9 => by first | exact Or.inl rfl | (cases h9; done) | (right; cases h9; first | rfl | exact isR_cat aref_isR | exact isR_cat kv_isR)) ?_
    refine gx_iload hC dX7_enter_26 rfl ?_
    refine gx_if_le (tgt := 43) hC dX7_enter_28 (by decide) (fun c_28 => ?_) (fun c_28 => ?_)
    · refine gx_aload_n (i := 0) hC dX7_enter_43 rfl rfl (by first | exact Or.inr ⟨_, rfl⟩ | exact Or.inl rfl | exact kv_isR | exact aref_isR) ?_
      refine gx_callV0 hC dX7_enter_44 (c_X7_records _ _ gM hq5 hq) kY_X7_records kV_X7_records ml_X7_49 (by first | exact gM.at215 | exact gM.at216 | exact gM.at217 | exact gM.at218 | exact gM.at219 | exact gM.at220 | exact gM.at221 | exact gM.at222 | exact gM.at223 | exact gM.at224 | exact gM.at225) rfl (by decide) rfl rfl rfl (by first | exact Nat.le_of_ble_eq_true rfl | (simp [Value.category, isR_cat kv_isR, isR_cat aref_isR]; done)) (Nat.le_refl _) (Nat.le_refl _) ?_
      refine gx_aload_n (i := 0) hC dX7_enter_47 rfl rfl (by first | exact Or.inr ⟨_, rfl⟩ | exact Or.inl rfl | exact kv_isR | exact aref_isR) ?_
      refine gx_iload_n (i := 1) hC dX7_enter_48 rfl rfl ?_
      refine gx_iload_n (i := 2) hC dX7_enter_49 rfl rfl ?_
      refine gx_iload_n (i := 3) hC dX7_enter_50 rfl rfl ?_
      refine gx_callV1 hC dX7_enter_51 (c_X7_enters _ _ gM hW hc _ _ _) kY_X7_enters kV_X7_enters ml_X7_82 (by first | exact gM.at215 | exact gM.at216 | exact gM.at217 | exact gM.at218 | exact gM.at219 | exact gM.at220 | exact gM.at221 | exact gM.at222 | exact gM.at223 | exact gM.at224 | exact gM.at225) rfl (by decide) rfl rfl rfl (by first | exact Nat.le_of_ble_eq_true rfl | (simp [Value.category, isR_cat kv_isR, isR_cat aref_isR]; done)) (Nat.le_refl _) (Nat.le_refl _) ?_
      exact gx_iret hC hQ dX7_enter_54 (rfl) (rfl) rfl
    · exact absurd (Int32.not_le.mp c_28) hr
  · exact absurd (Int32.not_le.mp c_11) hw
