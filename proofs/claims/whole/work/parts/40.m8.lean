/-! the model: the best level; history and slots -/
def mBw (v : Nat → Int32) (x fu : Int32) : Int32 := if bIn x 0 2 = false then -1 else if bIn fu 1 9999 = false then -2 else if v 3 = 20 then -4 else 0
/-- the step at level k: what is best, and its minutes -/
def mBm (v : Nat → Int32) (lv c : Nat) (x fu : Int32) (k : Nat) : Int32 := mLm (mEn v c x fu (nI k)) lv (c + 1) c
def mBe (v : Nat → Int32) (lv c : Nat) (x fu : Int32) : Nat → Option Nat × Int32
  | 0 => (none, 0)
  | k + 1 => if mRf v c x fu (nI k) = 0 ∧ 0 ≤ mBm v lv c x fu k ∧ ((mBe v lv c x fu k).1 = none ∨ mBm v lv c x fu k < (mBe v lv c x fu k).2)
      then (some k, mBm v lv c x fu k) else mBe v lv c x fu k
theorem mBe_t {v : Nat → Int32} {lv c : Nat} {x fu : Int32} {k : Nat} (h : mRf v c x fu (nI k) = 0 ∧ 0 ≤ mBm v lv c x fu k ∧ ((mBe v lv c x fu k).1 = none ∨ mBm v lv c x fu k < (mBe v lv c x fu k).2)) : mBe v lv c x fu (k + 1) = (some k, mBm v lv c x fu k) := by rw [mBe, if_pos h]
theorem mBe_f {v : Nat → Int32} {lv c : Nat} {x fu : Int32} {k : Nat} (h : ¬ (mRf v c x fu (nI k) = 0 ∧ 0 ≤ mBm v lv c x fu k ∧ ((mBe v lv c x fu k).1 = none ∨ mBm v lv c x fu k < (mBe v lv c x fu k).2))) : mBe v lv c x fu (k + 1) = mBe v lv c x fu k := by rw [mBe, if_neg h]
theorem mBe_lt {v : Nat → Int32} {lv c : Nat} {x fu : Int32} {k j : Nat} (h : (mBe v lv c x fu k).1 = some j) : j < k := by
  induction k with
  | zero => cases h
  | succ k ih =>
    rw [mBe] at h
    split at h
    · cases h; exact Nat.lt_succ_self _
    · have := ih h; omega
def mBM (M : hMem) (v : Nat → Int32) (lv c : Nat) (x fu : Int32) : Nat → hMem
  | 0 => M
  | k + 1 => if mRf v c x fu (nI k) = 0 then mLm2 (putRow (mBM M v lv c x fu k) 218 (cpy (mBM M v lv c x fu k 218) 0 v 154)) (mEn v c x fu (nI k)) lv (c + 1) c else mBM M v lv c x fu k
theorem mBM_t {M : hMem} {v : Nat → Int32} {lv c : Nat} {x fu : Int32} {k : Nat} (h : mRf v c x fu (nI k) = 0) : mBM M v lv c x fu (k + 1) = mLm2 (putRow (mBM M v lv c x fu k) 218 (cpy (mBM M v lv c x fu k 218) 0 v 154)) (mEn v c x fu (nI k)) lv (c + 1) c := by rw [mBM, if_pos h]
theorem mBM_f {M : hMem} {v : Nat → Int32} {lv c : Nat} {x fu : Int32} {k : Nat} (h : ¬ mRf v c x fu (nI k) = 0) : mBM M v lv c x fu (k + 1) = mBM M v lv c x fu k := by rw [mBM, if_neg h]
theorem CR.bM {M : hMem} {v : Nat → Int32} {lv c : Nat} {x fu : Int32} (h : CR M) (k : Nat) : CR (mBM M v lv c x fu k) := by
  induction k with
  | zero => exact h
  | succ k ih =>
    rw [mBM]
    split
    · exact ih.of (fun i q hi => by rw [mLm2_o (by omega), pRo (by omega)])
    · exact ih
set_option maxHeartbeats 4000000 in
set_option maxRecDepth 20000 in
theorem c0_X7_bestLevel (l : Launch) (z : hZt) {n : Nat} {M : hMem} {R : hRef} (gM : gMd n R) {v : Nat → Int32} {x fu : Int32} (h0 : ¬ mBw v x fu = 0) : hCt l z m_X7_bestLevel [.ref (z.1 + 215), .int x, .int fu] n (putRow M 216 v) R n (some (.int (mBw v x fu))) (putRow M 216 v) R := by
  refine hs_start [some (.ref (z.1 + 215)), some (.int x), some (.int fu), none, none, none, none, none] (by decide +kernel) rfl (by intro u hu; simp at hu; rcases hu with rfl | rfl | rfl <;> first | rfl | exact isR_cat kv_isR | exact isR_cat aref_isR) (Nat.le_of_ble_eq_true rfl) (Nat.le_refl _) (fun X hlX hN hC hQ => ?_)
  dsimp only at hC hQ
  refine gx_iload_n (i := 1) hC dX7_bestLevel_0 rfl rfl ?_
  refine gx_iconst (v := 0) hC dX7_bestLevel_1 ic_0 ?_
  refine gx_iconst (v := 2) hC dX7_bestLevel_2 ic_2 ?_
  refine gx_callS1 hC dX7_bestLevel_3 (c_X7_in _ _ _ _ _) kY_X7_in kS_X7_in ml_X7_41 (by decide) rfl rfl rfl (by first | exact Nat.le_of_ble_eq_true rfl | (simp [Value.category, isR_cat kv_isR, isR_cat aref_isR]; done)) (Nat.le_refl _) (Nat.le_refl _) ?_
  refine gx_ifb_ne (tgt := 11) hC dX7_bestLevel_6 (by decide) (fun c_6 => ?_) (fun c_6 => ?_)
  · refine gx_iload_n (i := 2) hC dX7_bestLevel_11 rfl rfl ?_
    refine gx_iconst (v := 1) hC dX7_bestLevel_12 ic_1 ?_
    refine gx_sipush (v := 9999) hC dX7_bestLevel_13 sp_9999 ?_
    refine gx_callS1 hC dX7_bestLevel_16 (c_X7_in _ _ _ _ _) kY_X7_in kS_X7_in ml_X7_41 (by decide) rfl rfl rfl (by first | exact Nat.le_of_ble_eq_true rfl | (simp [Value.category, isR_cat kv_isR, isR_cat aref_isR]; done)) (Nat.le_refl _) (Nat.le_refl _) ?_
    refine gx_ifb_ne (tgt := 25) hC dX7_bestLevel_19 (by decide) (fun c_19 => ?_) (fun c_19 => ?_)
    · refine gx_aload_n (i := 0) hC dX7_bestLevel_25 rfl rfl (by first | exact Or.inr ⟨_, rfl⟩ | exact Or.inl rfl | exact kv_isR | exact aref_isR) ?_
      refine gx_getR hC dX7_bestLevel_26 fl_X7_7 (by first | exact gM.at215 | exact gM.at216 | exact gM.at217 | exact gM.at218 | exact gM.at219 | exact gM.at220 | exact gM.at221 | exact gM.at222 | exact gM.at223 | exact gM.at224 | exact gM.at225) rfl (gM.r216) (by decide) ?_
      refine gx_iconst (v := nI 3) hC dX7_bestLevel_29 ic_3n ?_
      refine gx_iald hC dX7_bestLevel_30 (by first | exact gM.at215 | exact gM.at216 | exact gM.at217 | exact gM.at218 | exact gM.at219 | exact gM.at220 | exact gM.at221 | exact gM.at222 | exact gM.at223 | exact gM.at224 | exact gM.at225) (by exact vpn (by omega) (by decide)) (pRn (by omega)) ?_
      refine gx_bipush (v := 20) hC dX7_bestLevel_31 bp_20 ?_
      refine gx_icmp_ne (tgt := 39) hC dX7_bestLevel_33 (by decide) (fun c_33 => ?_) (fun c_33 => ?_)
      · exact absurd (by simp [mBw, c_6, c_19, c_33]) h0
      · refine gx_bipush (v := -4) hC dX7_bestLevel_36 bp_m4 ?_
        exact gx_iret hC hQ dX7_bestLevel_38 ((by simp [mBw, c_6, c_19, c_33])) (rfl) rfl
    · refine gx_bipush (v := -2) hC dX7_bestLevel_22 bp_m2 ?_
      exact gx_iret hC hQ dX7_bestLevel_24 ((by simp [mBw, c_6, c_19])) (rfl) rfl
  · refine gx_iconst (v := -1) hC dX7_bestLevel_9 ic_m1 ?_
    exact gx_iret hC hQ dX7_bestLevel_10 ((by simp [mBw, c_6])) (rfl) rfl
theorem mBw_ok {v : Nat → Int32} {x fu : Int32} (h : mBw v x fu = 0) : bIn x 0 2 = true ∧ bIn fu 1 9999 = true ∧ ¬ v 3 = 20 := by
  unfold mBw at h
  split at h
  · exact absurd h (by decide)
  · next h1 =>
    split at h
    · exact absurd h (by decide)
    · next h2 =>
      split at h
      · exact absurd h (by decide)
      · next h3 => exact ⟨(Bool.not_eq_false _).mp h1, (Bool.not_eq_false _).mp h2, h3⟩
set_option maxHeartbeats 4000000 in
set_option maxRecDepth 20000 in
theorem c_X7_bestLevel (l : Launch) (z : hZt) {n : Nat} {M : hMem} {R : hRef} (gM : gMd n R) {v : Nat → Int32} {lv c : Nat} (hW : MW v lv c) (hR3 : CR M) (hl1 : 1 ≤ lv) {x fu : Int32} (h0 : mBw v x fu = 0) : hCt l z m_X7_bestLevel [.ref (z.1 + 215), .int x, .int fu] n (putRow M 216 v) R n (some (.int (oI (mBe v lv c x fu lv).1))) (putRow (mBM M v lv c x fu lv) 216 v) R := by
  refine hs_start [some (.ref (z.1 + 215)), some (.int x), some (.int fu), none, none, none, none, none] (by decide +kernel) rfl (by intro u hu; simp at hu; rcases hu with rfl | rfl | rfl <;> first | rfl | exact isR_cat kv_isR | exact isR_cat aref_isR) (Nat.le_of_ble_eq_true rfl) (Nat.le_refl _) (fun X hlX hN hC hQ => ?_)
  dsimp only at hC hQ
  have hc20 := hW.c20
  have hl16 := hW.l16
  refine gx_iload_n (i := 1) hC dX7_bestLevel_0 rfl rfl ?_
  refine gx_iconst (v := 0) hC dX7_bestLevel_1 ic_0 ?_
  refine gx_iconst (v := 2) hC dX7_bestLevel_2 ic_2 ?_
  refine gx_callS1 hC dX7_bestLevel_3 (c_X7_in _ _ _ _ _) kY_X7_in kS_X7_in ml_X7_41 (by decide) rfl rfl rfl (by first | exact Nat.le_of_ble_eq_true rfl | (simp [Value.category, isR_cat kv_isR, isR_cat aref_isR]; done)) (Nat.le_refl _) (Nat.le_refl _) ?_
  refine gx_ifb_ne (tgt := 11) hC dX7_bestLevel_6 (by decide) (fun c_6 => ?_) (fun c_6 => ?_)
  · refine gx_iload_n (i := 2) hC dX7_bestLevel_11 rfl rfl ?_
    refine gx_iconst (v := 1) hC dX7_bestLevel_12 ic_1 ?_
    refine gx_sipush (v := 9999) hC dX7_bestLevel_13 sp_9999 ?_
    refine gx_callS1 hC dX7_bestLevel_16 (c_X7_in _ _ _ _ _) kY_X7_in kS_X7_in ml_X7_41 (by decide) rfl rfl rfl (by first | exact Nat.le_of_ble_eq_true rfl | (simp [Value.category, isR_cat kv_isR, isR_cat aref_isR]; done)) (Nat.le_refl _) (Nat.le_refl _) ?_
    refine gx_ifb_ne (tgt := 25) hC dX7_bestLevel_19 (by decide) (fun c_19 => ?_) (fun c_19 => ?_)
    · refine gx_aload_n (i := 0) hC dX7_bestLevel_25 rfl rfl (by first | exact Or.inr ⟨_, rfl⟩ | exact Or.inl rfl | exact kv_isR | exact aref_isR) ?_
      refine gx_getR hC dX7_bestLevel_26 fl_X7_7 (by first | exact gM.at215 | exact gM.at216 | exact gM.at217 | exact gM.at218 | exact gM.at219 | exact gM.at220 | exact gM.at221 | exact gM.at222 | exact gM.at223 | exact gM.at224 | exact gM.at225) rfl (gM.r216) (by decide) ?_
      refine gx_iconst (v := nI 3) hC dX7_bestLevel_29 ic_3n ?_
      refine gx_iald hC dX7_bestLevel_30 (by first | exact gM.at215 | exact gM.at216 | exact gM.at217 | exact gM.at218 | exact gM.at219 | exact gM.at220 | exact gM.at221 | exact gM.at222 | exact gM.at223 | exact gM.at224 | exact gM.at225) (by exact vpn (by omega) (by decide)) (pRn (by omega)) ?_
      refine gx_bipush (v := 20) hC dX7_bestLevel_31 bp_20 ?_
      refine gx_icmp_ne (tgt := 39) hC dX7_bestLevel_33 (by decide) (fun c_33 => ?_) (fun c_33 => ?_)
      · have hx := bIn_hk (mBw_ok h0).1
        have hc : c < 20 := Nat.lt_of_le_of_ne hc20 (fun e => (mBw_ok h0).2.2 (by rw [hW.ct, e]; rfl))
        refine gx_bipush (v := -6) hC dX7_bestLevel_39 bp_m6 ?_
        refine gx_istore_n (i := 3) (L' := [_, _, _, _, _, _, _, _]) hC dX7_bestLevel_41 rfl (Nat.le_of_ble_eq_true rfl) rfl (fun u h9 => by first | exact Or.inl rfl | (cases h9; done) | (right; cases h9; first | rfl | exact isR_cat aref_isR | exact isR_cat kv_isR)) ?_
        refine gx_iconst (v := 0) hC dX7_bestLevel_42 ic_0 ?_
        refine gx_istore (i := 4) (L' := [_, _, _, _, _, _, _, _]) hC dX7_bestLevel_43 (Nat.le_of_ble_eq_true rfl) rfl (fun u h9 => by first | exact Or.inl rfl | (cases h9; done) | (right; cases h9; first | rfl | exact isR_cat aref_isR | exact isR_cat kv_isR)) ?_
        refine gx_iconst (v := nI 0) hC dX7_bestLevel_45 ic_0n ?_
        refine gx_istore (i := 5) (L' := [_, _, _, _, _, _, _, _]) hC dX7_bestLevel_46 (Nat.le_of_ble_eq_true rfl) rfl (fun u h9 => by first | exact Or.inl rfl | (cases h9; done) | (right; cases h9; first | rfl | exact isR_cat aref_isR | exact isR_cat kv_isR)) ?_
        have loop_48 : ∀ (k : Nat) (k2 : Nat) (u6 u7 : Option Value), lv - k2 < k → k2 ≤ lv → hG z n X n (putRow (mBM M v lv c x fu k2) 216 v) R 48 [some (.ref (z.1 + 215)), some (.int x), some (.int fu), some (.int (oI (mBe v lv c x fu k2).1)), some (.int (mBe v lv c x fu k2).2), some (.int (nI k2)), u6, u7] [] := by
          intro k
          induction k with
          | zero => intros; omega
          | succ k ih =>
            intro k2 u6 u7 hk1 ha
            refine gx_iload hC dX7_bestLevel_48 rfl ?_
            refine gx_aload_n (i := 0) hC dX7_bestLevel_50 rfl rfl (by first | exact Or.inr ⟨_, rfl⟩ | exact Or.inl rfl | exact kv_isR | exact aref_isR) ?_
            refine gx_getR hC dX7_bestLevel_51 fl_X7_7 (by first | exact gM.at215 | exact gM.at216 | exact gM.at217 | exact gM.at218 | exact gM.at219 | exact gM.at220 | exact gM.at221 | exact gM.at222 | exact gM.at223 | exact gM.at224 | exact gM.at225) rfl (gM.r216) (by decide) ?_
            refine gx_iconst (v := nI 1) hC dX7_bestLevel_54 ic_1n ?_
            refine gx_iald hC dX7_bestLevel_55 (by first | exact gM.at215 | exact gM.at216 | exact gM.at217 | exact gM.at218 | exact gM.at219 | exact gM.at220 | exact gM.at221 | exact gM.at222 | exact gM.at223 | exact gM.at224 | exact gM.at225) (by exact vpn (by omega) (by decide)) ((pRn (by omega)).trans hW.lv) ?_
            refine gx_icmp_ge (tgt := 159) hC dX7_bestLevel_56 (by decide) (fun c_56 => ?_) (fun c_56 => ?_)
            · have d_56 := cle (by omega) (by omega) c_56
              refine gx_iload_n (i := 3) hC dX7_bestLevel_159 rfl rfl ?_
              exact gx_iret hC hQ dX7_bestLevel_160 ((by rw [show lv = k2 by omega])) ((by rw [show lv = k2 by omega])) rfl
            · have d_56 := cnle (by omega) (by omega) c_56
              refine gx_aload_n (i := 0) hC dX7_bestLevel_59 rfl rfl (by first | exact Or.inr ⟨_, rfl⟩ | exact Or.inl rfl | exact kv_isR | exact aref_isR) ?_
              refine gx_iload_n (i := 1) hC dX7_bestLevel_60 rfl rfl ?_
              refine gx_iload_n (i := 2) hC dX7_bestLevel_61 rfl rfl ?_
              refine gx_iload hC dX7_bestLevel_62 rfl ?_
              refine gx_callV1 hC dX7_bestLevel_64 (c_X7_refusal _ _ gM hW (hR3.bM k2) hx _ _) kY_X7_refusal kV_X7_refusal ml_X7_79 (by first | exact gM.at215 | exact gM.at216 | exact gM.at217 | exact gM.at218 | exact gM.at219 | exact gM.at220 | exact gM.at221 | exact gM.at222 | exact gM.at223 | exact gM.at224 | exact gM.at225) rfl (by decide) rfl rfl rfl (by first | exact Nat.le_of_ble_eq_true rfl | (simp [Value.category, isR_cat kv_isR, isR_cat aref_isR]; done)) (Nat.le_refl _) (Nat.le_refl _) ?_
              refine gx_if_ne (tgt := 153) hC dX7_bestLevel_67 (by decide) (fun c_67 => ?_) (fun c_67 => ?_)
              · refine gx_iinc (i := 5) (L' := [_, _, _, _, _, _, _, _]) hC dX7_bestLevel_153 rfl (ii_1 _) (Nat.le_of_ble_eq_true rfl) rfl (fun u h9 => by first | exact Or.inl rfl | (cases h9; done) | (right; cases h9; first | rfl | exact isR_cat aref_isR | exact isR_cat kv_isR)) ?_
                refine gx_goto (tgt := 48) hC dX7_bestLevel_156 (by decide) ?_
                have h9 := ih (k2 + 1) u6 u7 (by omega) (by omega)
                rw [mBM_f c_67, mBe_f (fun q => c_67 q.1)] at h9
                exact h9
              · refine gx_aload_n (i := 0) hC dX7_bestLevel_70 rfl rfl (by first | exact Or.inr ⟨_, rfl⟩ | exact Or.inl rfl | exact kv_isR | exact aref_isR) ?_
                refine gx_aload_n (i := 0) hC dX7_bestLevel_71 rfl rfl (by first | exact Or.inr ⟨_, rfl⟩ | exact Or.inl rfl | exact kv_isR | exact aref_isR) ?_
                refine gx_getR hC dX7_bestLevel_72 fl_X7_16 (by first | exact gM.at215 | exact gM.at216 | exact gM.at217 | exact gM.at218 | exact gM.at219 | exact gM.at220 | exact gM.at221 | exact gM.at222 | exact gM.at223 | exact gM.at224 | exact gM.at225) rfl (gM.r218) (by decide) ?_
                refine gx_callV0 hC dX7_bestLevel_75 (c_X7_keeps _ _ gM) kY_X7_keeps kV_X7_keeps ml_X7_134 (by first | exact gM.at215 | exact gM.at216 | exact gM.at217 | exact gM.at218 | exact gM.at219 | exact gM.at220 | exact gM.at221 | exact gM.at222 | exact gM.at223 | exact gM.at224 | exact gM.at225) rfl (by decide) rfl rfl rfl (by first | exact Nat.le_of_ble_eq_true rfl | (simp [Value.category, isR_cat kv_isR, isR_cat aref_isR]; done)) (Nat.le_refl _) (Nat.le_refl _) ?_
                refine gx_aload_n (i := 0) hC dX7_bestLevel_78 rfl rfl (by first | exact Or.inr ⟨_, rfl⟩ | exact Or.inl rfl | exact kv_isR | exact aref_isR) ?_
                refine gx_iload_n (i := 1) hC dX7_bestLevel_79 rfl rfl ?_
                refine gx_iload_n (i := 2) hC dX7_bestLevel_80 rfl rfl ?_
                refine gx_iload hC dX7_bestLevel_81 rfl ?_
                refine gx_callV1 hC dX7_bestLevel_83 (c_X7_enters _ _ gM hW hc _ _ _) kY_X7_enters kV_X7_enters ml_X7_82 (by first | exact gM.at215 | exact gM.at216 | exact gM.at217 | exact gM.at218 | exact gM.at219 | exact gM.at220 | exact gM.at221 | exact gM.at222 | exact gM.at223 | exact gM.at224 | exact gM.at225) rfl (by decide) rfl rfl rfl (by first | exact Nat.le_of_ble_eq_true rfl | (simp [Value.category, isR_cat kv_isR, isR_cat aref_isR]; done)) (Nat.le_refl _) (Nat.le_refl _) ?_
                refine gx_istore (i := 6) (L' := [_, _, _, _, _, _, _, _]) hC dX7_bestLevel_86 (Nat.le_of_ble_eq_true rfl) rfl (fun u h9 => by first | exact Or.inl rfl | (cases h9; done) | (right; cases h9; first | rfl | exact isR_cat aref_isR | exact isR_cat kv_isR)) ?_
                refine gx_aload_n (i := 0) hC dX7_bestLevel_88 rfl rfl (by first | exact Or.inr ⟨_, rfl⟩ | exact Or.inl rfl | exact kv_isR | exact aref_isR) ?_
                refine gx_iload hC dX7_bestLevel_89 rfl ?_
                refine gx_callV0 hC dX7_bestLevel_91 (c_X7_landsLater _ _ gM (hW.en hc hx) ((hR3.bM k2).row (by decide)) hl1 (Nat.lt_succ_self c)) kY_X7_landsLater kV_X7_landsLater ml_X7_138 (by first | exact gM.at215 | exact gM.at216 | exact gM.at217 | exact gM.at218 | exact gM.at219 | exact gM.at220 | exact gM.at221 | exact gM.at222 | exact gM.at223 | exact gM.at224 | exact gM.at225) rfl (by decide) rfl rfl rfl (by first | exact Nat.le_of_ble_eq_true rfl | (simp [Value.category, isR_cat kv_isR, isR_cat aref_isR]; done)) (Nat.le_refl _) (Nat.le_refl _) ?_
                refine gx_aload_n (i := 0) hC dX7_bestLevel_94 rfl rfl (by first | exact Or.inr ⟨_, rfl⟩ | exact Or.inl rfl | exact kv_isR | exact aref_isR) ?_
                refine gx_callV0 hC dX7_bestLevel_95 (b_comesBack _ _ gM (by funext k3; rw [mLm2_o (by decide), pRs]) ((hEq.rfl'.en hc).go hc _)) kY_X7_comesBack kV_X7_comesBack ml_X7_142 (by first | exact gM.at215 | exact gM.at216 | exact gM.at217 | exact gM.at218 | exact gM.at219 | exact gM.at220 | exact gM.at221 | exact gM.at222 | exact gM.at223 | exact gM.at224 | exact gM.at225) rfl (by decide) rfl rfl rfl (by first | exact Nat.le_of_ble_eq_true rfl | (simp [Value.category, isR_cat kv_isR, isR_cat aref_isR]; done)) (Nat.le_refl _) (Nat.le_refl _) ?_
                refine gx_aload_n (i := 0) hC dX7_bestLevel_98 rfl rfl (by first | exact Or.inr ⟨_, rfl⟩ | exact Or.inl rfl | exact kv_isR | exact aref_isR) ?_
                refine gx_getI hC dX7_bestLevel_99 fl_X7_128 (by first | exact gM.at215 | exact gM.at216 | exact gM.at217 | exact gM.at218 | exact gM.at219 | exact gM.at220 | exact gM.at221 | exact gM.at222 | exact gM.at223 | exact gM.at224 | exact gM.at225) (by decide) ((pRo (by decide)).trans mLm2_13) ?_
                refine gx_if_lt (tgt := 122) hC dX7_bestLevel_102 (by decide) (fun c_102 => ?_) (fun c_102 => ?_)
                · refine gx_iconst (v := 0) hC dX7_bestLevel_122 ic_0 ?_
                  refine gx_istore (i := 7) (L' := [_, _, _, _, _, _, _, _]) hC dX7_bestLevel_123 (Nat.le_of_ble_eq_true rfl) rfl (fun u h9 => by first | exact Or.inl rfl | (cases h9; done) | (right; cases h9; first | rfl | exact isR_cat aref_isR | exact isR_cat kv_isR)) ?_
                  refine gx_iload hC dX7_bestLevel_125 rfl ?_
                  refine gx_if_eq (tgt := 135) hC dX7_bestLevel_127 (by decide) (fun c_127 => ?_) (fun c_127 => ?_)
                  · refine gx_iload_n (i := 3) hC dX7_bestLevel_135 rfl rfl ?_
                    refine gx_istore_n (i := 3) (L' := [_, _, _, _, _, _, _, _]) hC dX7_bestLevel_136 rfl (Nat.le_of_ble_eq_true rfl) rfl (fun u h9 => by first | exact Or.inl rfl | (cases h9; done) | (right; cases h9; first | rfl | exact isR_cat aref_isR | exact isR_cat kv_isR)) ?_
                    refine gx_iload hC dX7_bestLevel_137 rfl ?_
                    refine gx_if_eq (tgt := 149) hC dX7_bestLevel_139 (by decide) (fun c_139 => ?_) (fun c_139 => ?_)
                    · refine gx_iload hC dX7_bestLevel_149 rfl ?_
                      refine gx_istore (i := 4) (L' := [_, _, _, _, _, _, _, _]) hC dX7_bestLevel_151 (Nat.le_of_ble_eq_true rfl) rfl (fun u h9 => by first | exact Or.inl rfl | (cases h9; done) | (right; cases h9; first | rfl | exact isR_cat aref_isR | exact isR_cat kv_isR)) ?_
                      refine gx_iinc (i := 5) (L' := [_, _, _, _, _, _, _, _]) hC dX7_bestLevel_153 rfl (ii_1 _) (Nat.le_of_ble_eq_true rfl) rfl (fun u h9 => by first | exact Or.inl rfl | (cases h9; done) | (right; cases h9; first | rfl | exact isR_cat aref_isR | exact isR_cat kv_isR)) ?_
                      refine gx_goto (tgt := 48) hC dX7_bestLevel_156 (by decide) ?_
                      have h9 := ih (k2 + 1) (some (.int (nI c))) (some (.int 0)) (by omega) (by omega)
                      rw [mBM_t c_67, mBe_f (fun q => absurd q.2.1 (Int32.not_le.mpr c_102))] at h9
                      exact h9
                    · exact absurd rfl c_139
                  · exact absurd rfl c_127
                · refine gx_iload_n (i := 3) hC dX7_bestLevel_105 rfl rfl ?_
                  refine gx_if_lt (tgt := 118) hC dX7_bestLevel_106 (by decide) (fun c_106 => ?_) (fun c_106 => ?_)
                  · have e7 := oI_n0 c_106 (fun j e => by have := mBe_lt e; omega)
                    refine gx_iconst (v := 1) hC dX7_bestLevel_118 ic_1 ?_
                    refine gx_goto (tgt := 123) hC dX7_bestLevel_119 (by decide) ?_
                    refine gx_istore (i := 7) (L' := [_, _, _, _, _, _, _, _]) hC dX7_bestLevel_123 (Nat.le_of_ble_eq_true rfl) rfl (fun u h9 => by first | exact Or.inl rfl | (cases h9; done) | (right; cases h9; first | rfl | exact isR_cat aref_isR | exact isR_cat kv_isR)) ?_
                    refine gx_iload hC dX7_bestLevel_125 rfl ?_
                    refine gx_if_eq (tgt := 135) hC dX7_bestLevel_127 (by decide) (fun c_127 => ?_) (fun c_127 => ?_)
                    · exact absurd c_127 (by decide)
                    · refine gx_iload hC dX7_bestLevel_130 rfl ?_
                      refine gx_goto (tgt := 136) hC dX7_bestLevel_132 (by decide) ?_
                      refine gx_istore_n (i := 3) (L' := [_, _, _, _, _, _, _, _]) hC dX7_bestLevel_136 rfl (Nat.le_of_ble_eq_true rfl) rfl (fun u h9 => by first | exact Or.inl rfl | (cases h9; done) | (right; cases h9; first | rfl | exact isR_cat aref_isR | exact isR_cat kv_isR)) ?_
                      refine gx_iload hC dX7_bestLevel_137 rfl ?_
                      refine gx_if_eq (tgt := 149) hC dX7_bestLevel_139 (by decide) (fun c_139 => ?_) (fun c_139 => ?_)
                      · exact absurd c_139 (by decide)
                      · refine gx_aload_n (i := 0) hC dX7_bestLevel_142 rfl rfl (by first | exact Or.inr ⟨_, rfl⟩ | exact Or.inl rfl | exact kv_isR | exact aref_isR) ?_
                        refine gx_getI hC dX7_bestLevel_143 fl_X7_128 (by first | exact gM.at215 | exact gM.at216 | exact gM.at217 | exact gM.at218 | exact gM.at219 | exact gM.at220 | exact gM.at221 | exact gM.at222 | exact gM.at223 | exact gM.at224 | exact gM.at225) (by decide) ((pRo (by decide)).trans mLm2_13) ?_
                        refine gx_goto (tgt := 151) hC dX7_bestLevel_146 (by decide) ?_
                        refine gx_istore (i := 4) (L' := [_, _, _, _, _, _, _, _]) hC dX7_bestLevel_151 (Nat.le_of_ble_eq_true rfl) rfl (fun u h9 => by first | exact Or.inl rfl | (cases h9; done) | (right; cases h9; first | rfl | exact isR_cat aref_isR | exact isR_cat kv_isR)) ?_
                        refine gx_iinc (i := 5) (L' := [_, _, _, _, _, _, _, _]) hC dX7_bestLevel_153 rfl (ii_1 _) (Nat.le_of_ble_eq_true rfl) rfl (fun u h9 => by first | exact Or.inl rfl | (cases h9; done) | (right; cases h9; first | rfl | exact isR_cat aref_isR | exact isR_cat kv_isR)) ?_
                        refine gx_goto (tgt := 48) hC dX7_bestLevel_156 (by decide) ?_
                        have h9 := ih (k2 + 1) (some (.int (nI c))) (some (.int 1)) (by omega) (by omega)
                        rw [mBM_t c_67, mBe_t ⟨c_67, Int32.not_lt.mp c_102, Or.inl e7⟩] at h9
                        exact h9
                  · refine gx_aload_n (i := 0) hC dX7_bestLevel_109 rfl rfl (by first | exact Or.inr ⟨_, rfl⟩ | exact Or.inl rfl | exact kv_isR | exact aref_isR) ?_
                    refine gx_getI hC dX7_bestLevel_110 fl_X7_128 (by first | exact gM.at215 | exact gM.at216 | exact gM.at217 | exact gM.at218 | exact gM.at219 | exact gM.at220 | exact gM.at221 | exact gM.at222 | exact gM.at223 | exact gM.at224 | exact gM.at225) (by decide) ((pRo (by decide)).trans mLm2_13) ?_
                    refine gx_iload hC dX7_bestLevel_113 rfl ?_
                    refine gx_icmp_ge (tgt := 122) hC dX7_bestLevel_115 (by decide) (fun c_115 => ?_) (fun c_115 => ?_)
                    · refine gx_iconst (v := 0) hC dX7_bestLevel_122 ic_0 ?_
                      refine gx_istore (i := 7) (L' := [_, _, _, _, _, _, _, _]) hC dX7_bestLevel_123 (Nat.le_of_ble_eq_true rfl) rfl (fun u h9 => by first | exact Or.inl rfl | (cases h9; done) | (right; cases h9; first | rfl | exact isR_cat aref_isR | exact isR_cat kv_isR)) ?_
                      refine gx_iload hC dX7_bestLevel_125 rfl ?_
                      refine gx_if_eq (tgt := 135) hC dX7_bestLevel_127 (by decide) (fun c_127 => ?_) (fun c_127 => ?_)
                      · refine gx_iload_n (i := 3) hC dX7_bestLevel_135 rfl rfl ?_
                        refine gx_istore_n (i := 3) (L' := [_, _, _, _, _, _, _, _]) hC dX7_bestLevel_136 rfl (Nat.le_of_ble_eq_true rfl) rfl (fun u h9 => by first | exact Or.inl rfl | (cases h9; done) | (right; cases h9; first | rfl | exact isR_cat aref_isR | exact isR_cat kv_isR)) ?_
                        refine gx_iload hC dX7_bestLevel_137 rfl ?_
                        refine gx_if_eq (tgt := 149) hC dX7_bestLevel_139 (by decide) (fun c_139 => ?_) (fun c_139 => ?_)
                        · refine gx_iload hC dX7_bestLevel_149 rfl ?_
                          refine gx_istore (i := 4) (L' := [_, _, _, _, _, _, _, _]) hC dX7_bestLevel_151 (Nat.le_of_ble_eq_true rfl) rfl (fun u h9 => by first | exact Or.inl rfl | (cases h9; done) | (right; cases h9; first | rfl | exact isR_cat aref_isR | exact isR_cat kv_isR)) ?_
                          refine gx_iinc (i := 5) (L' := [_, _, _, _, _, _, _, _]) hC dX7_bestLevel_153 rfl (ii_1 _) (Nat.le_of_ble_eq_true rfl) rfl (fun u h9 => by first | exact Or.inl rfl | (cases h9; done) | (right; cases h9; first | rfl | exact isR_cat aref_isR | exact isR_cat kv_isR)) ?_
                          refine gx_goto (tgt := 48) hC dX7_bestLevel_156 (by decide) ?_
                          have h9 := ih (k2 + 1) (some (.int (nI c))) (some (.int 0)) (by omega) (by omega)
                          rw [mBM_t c_67, mBe_f (fun q => q.2.2.elim (fun q => c_106 (by rw [q]; decide)) (Int32.not_lt.mpr c_115))] at h9
                          exact h9
                        · exact absurd rfl c_139
                      · exact absurd rfl c_127
                    · refine gx_iconst (v := 1) hC dX7_bestLevel_118 ic_1 ?_
                      refine gx_goto (tgt := 123) hC dX7_bestLevel_119 (by decide) ?_
                      refine gx_istore (i := 7) (L' := [_, _, _, _, _, _, _, _]) hC dX7_bestLevel_123 (Nat.le_of_ble_eq_true rfl) rfl (fun u h9 => by first | exact Or.inl rfl | (cases h9; done) | (right; cases h9; first | rfl | exact isR_cat aref_isR | exact isR_cat kv_isR)) ?_
                      refine gx_iload hC dX7_bestLevel_125 rfl ?_
                      refine gx_if_eq (tgt := 135) hC dX7_bestLevel_127 (by decide) (fun c_127 => ?_) (fun c_127 => ?_)
                      · exact absurd c_127 (by decide)
                      · refine gx_iload hC dX7_bestLevel_130 rfl ?_
                        refine gx_goto (tgt := 136) hC dX7_bestLevel_132 (by decide) ?_
                        refine gx_istore_n (i := 3) (L' := [_, _, _, _, _, _, _, _]) hC dX7_bestLevel_136 rfl (Nat.le_of_ble_eq_true rfl) rfl (fun u h9 => by first | exact Or.inl rfl | (cases h9; done) | (right; cases h9; first | rfl | exact isR_cat aref_isR | exact isR_cat kv_isR)) ?_
                        refine gx_iload hC dX7_bestLevel_137 rfl ?_
                        refine gx_if_eq (tgt := 149) hC dX7_bestLevel_139 (by decide) (fun c_139 => ?_) (fun c_139 => ?_)
                        · exact absurd c_139 (by decide)
                        · refine gx_aload_n (i := 0) hC dX7_bestLevel_142 rfl rfl (by first | exact Or.inr ⟨_, rfl⟩ | exact Or.inl rfl | exact kv_isR | exact aref_isR) ?_
                          refine gx_getI hC dX7_bestLevel_143 fl_X7_128 (by first | exact gM.at215 | exact gM.at216 | exact gM.at217 | exact gM.at218 | exact gM.at219 | exact gM.at220 | exact gM.at221 | exact gM.at222 | exact gM.at223 | exact gM.at224 | exact gM.at225) (by decide) ((pRo (by decide)).trans mLm2_13) ?_
                          refine gx_goto (tgt := 151) hC dX7_bestLevel_146 (by decide) ?_
                          refine gx_istore (i := 4) (L' := [_, _, _, _, _, _, _, _]) hC dX7_bestLevel_151 (Nat.le_of_ble_eq_true rfl) rfl (fun u h9 => by first | exact Or.inl rfl | (cases h9; done) | (right; cases h9; first | rfl | exact isR_cat aref_isR | exact isR_cat kv_isR)) ?_
                          refine gx_iinc (i := 5) (L' := [_, _, _, _, _, _, _, _]) hC dX7_bestLevel_153 rfl (ii_1 _) (Nat.le_of_ble_eq_true rfl) rfl (fun u h9 => by first | exact Or.inl rfl | (cases h9; done) | (right; cases h9; first | rfl | exact isR_cat aref_isR | exact isR_cat kv_isR)) ?_
                          refine gx_goto (tgt := 48) hC dX7_bestLevel_156 (by decide) ?_
                          have h9 := ih (k2 + 1) (some (.int (nI c))) (some (.int 1)) (by omega) (by omega)
                          rw [mBM_t c_67, mBe_t ⟨c_67, Int32.not_lt.mp c_102, Or.inr (Int32.not_le.mp c_115)⟩] at h9
                          exact h9
        exact loop_48 (lv + 1) 0 none none (by omega) (by omega)
      · exact absurd c_33 (mBw_ok h0).2.2
    · exact absurd ((mBw_ok h0).2.1.symm.trans c_19) (by decide)
  · exact absurd ((mBw_ok h0).1.symm.trans c_6) (by decide)
theorem cpy_v {p s : Nat → Int32} {k : Nat} : upd (cpy p 0 s k) k (s k) = cpy p 0 s (k + 1) := cpy_s0
set_option maxHeartbeats 4000000 in
set_option maxRecDepth 20000 in
theorem c0_X7_undo (l : Launch) (z : hZt) {n : Nat} {M : hMem} {R : hRef} (gM : gMd n R) {v : Nat → Int32} (hq : M 215 2 = 0) : hCt l z m_X7_undo [.ref (z.1 + 215)] n (putRow M 216 v) R n (some (.int (-3))) (putRow M 216 v) R := by
  refine hs_start [some (.ref (z.1 + 215)), none] (by decide +kernel) rfl (by intro u hu; simp at hu; subst hu <;> first | rfl | exact isR_cat kv_isR | exact isR_cat aref_isR) (Nat.le_of_ble_eq_true rfl) (Nat.le_refl _) (fun X hlX hN hC hQ => ?_)
  dsimp only at hC hQ
  refine gx_aload_n (i := 0) hC dX7_undo_0 rfl rfl (by first | exact Or.inr ⟨_, rfl⟩ | exact Or.inl rfl | exact kv_isR | exact aref_isR) ?_
  refine gx_getI hC dX7_undo_1 fl_X7_45 (by first | exact gM.at215 | exact gM.at216 | exact gM.at217 | exact gM.at218 | exact gM.at219 | exact gM.at220 | exact gM.at221 | exact gM.at222 | exact gM.at223 | exact gM.at224 | exact gM.at225) (by decide) ((pRo (by decide)).trans hq) ?_
  refine gx_if_ne (tgt := 10) hC dX7_undo_4 (by decide) (fun c_4 => ?_) (fun c_4 => ?_)
  · exact absurd rfl c_4
  · refine gx_bipush (v := -3) hC dX7_undo_7 bp_m3 ?_
    exact gx_iret hC hQ dX7_undo_9 (rfl) (rfl) rfl
set_option maxHeartbeats 4000000 in
set_option maxRecDepth 20000 in
theorem c_X7_undo (l : Launch) (z : hZt) {n : Nat} {M : hMem} {R : hRef} (gM : gMd n R) {v : Nat → Int32} {q : Nat} (hq5 : q + 1 ≤ 5) (hq : M 215 2 = nI (q + 1)) : hCt l z m_X7_undo [.ref (z.1 + 215)] n (putRow M 216 v) R n (some (.int (nI q))) (putRow (up2 M 215 2 (nI q)) 216 (cpy v 0 (fun k => M 217 (154 * q + k)) 154)) R := by
  refine hs_start [some (.ref (z.1 + 215)), none] (by decide +kernel) rfl (by intro u hu; simp at hu; subst hu <;> first | rfl | exact isR_cat kv_isR | exact isR_cat aref_isR) (Nat.le_of_ble_eq_true rfl) (Nat.le_refl _) (fun X hlX hN hC hQ => ?_)
  dsimp only at hC hQ
  refine gx_aload_n (i := 0) hC dX7_undo_0 rfl rfl (by first | exact Or.inr ⟨_, rfl⟩ | exact Or.inl rfl | exact kv_isR | exact aref_isR) ?_
  refine gx_getI hC dX7_undo_1 fl_X7_45 (by first | exact gM.at215 | exact gM.at216 | exact gM.at217 | exact gM.at218 | exact gM.at219 | exact gM.at220 | exact gM.at221 | exact gM.at222 | exact gM.at223 | exact gM.at224 | exact gM.at225) (by decide) ((pRo (by decide)).trans hq) ?_
  refine gx_if_ne (tgt := 10) hC dX7_undo_4 (by decide) (fun c_4 => ?_) (fun c_4 => ?_)
  · refine gx_aload_n (i := 0) hC dX7_undo_10 rfl rfl (by first | exact Or.inr ⟨_, rfl⟩ | exact Or.inl rfl | exact kv_isR | exact aref_isR) ?_
    refine gx_dup hC dX7_undo_11 (by first | rfl | exact isR_cat kv_isR | exact isR_cat aref_isR) ?_
    refine gx_getI hC dX7_undo_12 fl_X7_45 (by first | exact gM.at215 | exact gM.at216 | exact gM.at217 | exact gM.at218 | exact gM.at219 | exact gM.at220 | exact gM.at221 | exact gM.at222 | exact gM.at223 | exact gM.at224 | exact gM.at225) (by decide) ((pRo (by decide)).trans hq) ?_
    refine gx_iconst (v := 1) hC dX7_undo_15 ic_1 ?_
    refine gx_isub hC dX7_undo_16 ?_
    rw [nI_p1]
    refine gx_putI hC dX7_undo_17 fl_X7_45 (by first | exact gM.at215 | exact gM.at216 | exact gM.at217 | exact gM.at218 | exact gM.at219 | exact gM.at220 | exact gM.at221 | exact gM.at222 | exact gM.at223 | exact gM.at224 | exact gM.at225) fn_6_2 rfl (up_Ro (by decide)) ?_
    refine gx_iconst (v := nI 0) hC dX7_undo_20 ic_0n ?_
    refine gx_istore_n (i := 1) (L' := [_, _]) hC dX7_undo_21 rfl (Nat.le_of_ble_eq_true rfl) rfl (fun u h9 => by first | exact Or.inl rfl | (cases h9; done) | (right; cases h9; first | rfl | exact isR_cat aref_isR | exact isR_cat kv_isR)) ?_
    have loop_22 : ∀ (k : Nat) (a : Nat), 154 - a < k → a ≤ 154 → hG z n X n (putRow (up2 M 215 2 (nI q)) 216 (cpy v 0 (fun k => M 217 (154 * q + k)) a)) R 22 [some (.ref (z.1 + 215)), some (.int (nI a))] [] := by
      intro k
      induction k with
      | zero => intros; omega
      | succ k ih =>
        intro a hk1 ha
        refine gx_iload_n (i := 1) hC dX7_undo_22 rfl rfl ?_
        refine gx_sipush (v := nI 154) hC dX7_undo_23 sp_154n ?_
        refine gx_icmp_ge (tgt := 56) hC dX7_undo_26 (by decide) (fun c_26 => ?_) (fun c_26 => ?_)
        · have d_26 := cle (by omega) (by omega) c_26
          refine gx_aload_n (i := 0) hC dX7_undo_56 rfl rfl (by first | exact Or.inr ⟨_, rfl⟩ | exact Or.inl rfl | exact kv_isR | exact aref_isR) ?_
          refine gx_getI hC dX7_undo_57 fl_X7_45 (by first | exact gM.at215 | exact gM.at216 | exact gM.at217 | exact gM.at218 | exact gM.at219 | exact gM.at220 | exact gM.at221 | exact gM.at222 | exact gM.at223 | exact gM.at224 | exact gM.at225) (by decide) ((pRo (by decide)).trans up2_same) ?_
          exact gx_iret hC hQ dX7_undo_60 (rfl) ((by rw [show 154 = a by omega])) rfl
        · have d_26 := cnle (by omega) (by omega) c_26
          refine gx_aload_n (i := 0) hC dX7_undo_29 rfl rfl (by first | exact Or.inr ⟨_, rfl⟩ | exact Or.inl rfl | exact kv_isR | exact aref_isR) ?_
          refine gx_getR hC dX7_undo_30 fl_X7_7 (by first | exact gM.at215 | exact gM.at216 | exact gM.at217 | exact gM.at218 | exact gM.at219 | exact gM.at220 | exact gM.at221 | exact gM.at222 | exact gM.at223 | exact gM.at224 | exact gM.at225) rfl (gM.r216) (by decide) ?_
          refine gx_iload_n (i := 1) hC dX7_undo_33 rfl rfl ?_
          refine gx_aload_n (i := 0) hC dX7_undo_34 rfl rfl (by first | exact Or.inr ⟨_, rfl⟩ | exact Or.inl rfl | exact kv_isR | exact aref_isR) ?_
          refine gx_getR hC dX7_undo_35 fl_X7_13 (by first | exact gM.at215 | exact gM.at216 | exact gM.at217 | exact gM.at218 | exact gM.at219 | exact gM.at220 | exact gM.at221 | exact gM.at222 | exact gM.at223 | exact gM.at224 | exact gM.at225) rfl (gM.r217) (by decide) ?_
          refine gx_sipush (v := nI 154) hC dX7_undo_38 sp_154n ?_
          refine gx_aload_n (i := 0) hC dX7_undo_41 rfl rfl (by first | exact Or.inr ⟨_, rfl⟩ | exact Or.inl rfl | exact kv_isR | exact aref_isR) ?_
          refine gx_getI hC dX7_undo_42 fl_X7_45 (by first | exact gM.at215 | exact gM.at216 | exact gM.at217 | exact gM.at218 | exact gM.at219 | exact gM.at220 | exact gM.at221 | exact gM.at222 | exact gM.at223 | exact gM.at224 | exact gM.at225) (by decide) ((pRo (by decide)).trans up2_same) ?_
          refine gx_imul hC dX7_undo_45 ?_
          rw [pk_mul]
          refine gx_iload_n (i := 1) hC dX7_undo_46 rfl rfl ?_
          refine gx_iadd hC dX7_undo_47 ?_
          rw [nI_add]
          refine gx_iald hC dX7_undo_48 (by first | exact gM.at215 | exact gM.at216 | exact gM.at217 | exact gM.at218 | exact gM.at219 | exact gM.at220 | exact gM.at221 | exact gM.at222 | exact gM.at223 | exact gM.at224 | exact gM.at225) (by exact vpn (by omega) (by decide)) ((pRo (by decide)).trans ((up2_off (by omega)).trans (congrArg (M 217) (nI_clamp (by omega))))) ?_
          refine gx_iastM hC dX7_undo_49 (by first | exact gM.at215 | exact gM.at216 | exact gM.at217 | exact gM.at218 | exact gM.at219 | exact gM.at220 | exact gM.at221 | exact gM.at222 | exact gM.at223 | exact gM.at224 | exact gM.at225) (by exact vpn (by omega) (by decide)) (up_Rn (by omega)) ?_
          refine gx_iinc (i := 1) (L' := [_, _]) hC dX7_undo_50 rfl (ii_1 _) (Nat.le_of_ble_eq_true rfl) rfl (fun u h9 => by first | exact Or.inl rfl | (cases h9; done) | (right; cases h9; first | rfl | exact isR_cat aref_isR | exact isR_cat kv_isR)) ?_
          refine gx_goto (tgt := 22) hC dX7_undo_53 (by decide) ?_
          have h9 := ih (a + 1) (by omega) (by omega)
          rw [← cpy_s0] at h9
          exact h9
    have h8 := loop_22 155 0 (by omega) (by omega)
    rw [cpy_0] at h8
    exact h8
  · exact absurd c_4 (fun e => by have := (nI_eq (a := q + 1) (b := 0) (by omega) (by decide)).mp e; omega)
set_option maxHeartbeats 4000000 in
set_option maxRecDepth 20000 in
theorem c0_X7_keep (l : Launch) (z : hZt) {n : Nat} {M : hMem} {R : hRef} (gM : gMd n R) {v : Nat → Int32} {x : Int32} (hx : bIn x 0 1 = false) : hCt l z m_X7_keep [.ref (z.1 + 215), .int x] n (putRow M 216 v) R n (some (.int (-1))) (putRow M 216 v) R := by
  refine hs_start [some (.ref (z.1 + 215)), some (.int x), none] (by decide +kernel) rfl (by intro u hu; simp at hu; rcases hu with rfl | rfl <;> first | rfl | exact isR_cat kv_isR | exact isR_cat aref_isR) (Nat.le_of_ble_eq_true rfl) (Nat.le_refl _) (fun X hlX hN hC hQ => ?_)
  dsimp only at hC hQ
  refine gx_iload_n (i := 1) hC dX7_keep_0 rfl rfl ?_
  refine gx_iconst (v := 0) hC dX7_keep_1 ic_0 ?_
  refine gx_iconst (v := 1) hC dX7_keep_2 ic_1 ?_
  refine gx_callS1 hC dX7_keep_3 (c_X7_in _ _ _ _ _) kY_X7_in kS_X7_in ml_X7_41 (by decide) rfl rfl rfl (by first | exact Nat.le_of_ble_eq_true rfl | (simp [Value.category, isR_cat kv_isR, isR_cat aref_isR]; done)) (Nat.le_refl _) (Nat.le_refl _) ?_
  refine gx_ifb_ne (tgt := 11) hC dX7_keep_6 (by decide) (fun c_6 => ?_) (fun c_6 => ?_)
  · exact absurd (hx.symm.trans c_6) (by decide)
  · refine gx_iconst (v := -1) hC dX7_keep_9 ic_m1 ?_
    exact gx_iret hC hQ dX7_keep_10 (rfl) (rfl) rfl
set_option maxHeartbeats 4000000 in
set_option maxRecDepth 20000 in
theorem c_X7_keep (l : Launch) (z : hZt) {n : Nat} {M : hMem} {R : hRef} (gM : gMd n R) {v : Nat → Int32} {sl : Nat} (hsl : sl < 2) (hx : bIn (nI sl) 0 1 = true) : hCt l z m_X7_keep [.ref (z.1 + 215), .int (nI sl)] n (putRow M 216 v) R n (some (.int (v 0))) (putRow (up2 (putRow M 219 (cpy (M 219) (154 * sl) v 154)) 220 sl 1) 216 v) R := by
  refine hs_start [some (.ref (z.1 + 215)), some (.int (nI sl)), none] (by decide +kernel) rfl (by intro u hu; simp at hu; rcases hu with rfl | rfl <;> first | rfl | exact isR_cat kv_isR | exact isR_cat aref_isR) (Nat.le_of_ble_eq_true rfl) (Nat.le_refl _) (fun X hlX hN hC hQ => ?_)
  dsimp only at hC hQ
  refine gx_iload_n (i := 1) hC dX7_keep_0 rfl rfl ?_
  refine gx_iconst (v := 0) hC dX7_keep_1 ic_0 ?_
  refine gx_iconst (v := 1) hC dX7_keep_2 ic_1 ?_
  refine gx_callS1 hC dX7_keep_3 (c_X7_in _ _ _ _ _) kY_X7_in kS_X7_in ml_X7_41 (by decide) rfl rfl rfl (by first | exact Nat.le_of_ble_eq_true rfl | (simp [Value.category, isR_cat kv_isR, isR_cat aref_isR]; done)) (Nat.le_refl _) (Nat.le_refl _) ?_
  refine gx_ifb_ne (tgt := 11) hC dX7_keep_6 (by decide) (fun c_6 => ?_) (fun c_6 => ?_)
  · refine gx_iconst (v := nI 0) hC dX7_keep_11 ic_0n ?_
    refine gx_istore_n (i := 2) (L' := [_, _, _]) hC dX7_keep_12 rfl (Nat.le_of_ble_eq_true rfl) rfl (fun u h9 => by first | exact Or.inl rfl | (cases h9; done) | (right; cases h9; first | rfl | exact isR_cat aref_isR | exact isR_cat kv_isR)) ?_
    have loop_13 : ∀ (k : Nat) (a : Nat), 154 - a < k → a ≤ 154 → hG z n X n (putRow (putRow M 219 (cpy (M 219) (154 * sl) v a)) 216 v) R 13 [some (.ref (z.1 + 215)), some (.int (nI sl)), some (.int (nI a))] [] := by
      intro k
      induction k with
      | zero => intros; omega
      | succ k ih =>
        intro a hk1 ha
        refine gx_iload_n (i := 2) hC dX7_keep_13 rfl rfl ?_
        refine gx_sipush (v := nI 154) hC dX7_keep_14 sp_154n ?_
        refine gx_icmp_ge (tgt := 44) hC dX7_keep_17 (by decide) (fun c_17 => ?_) (fun c_17 => ?_)
        · have d_17 := cle (by omega) (by omega) c_17
          refine gx_aload_n (i := 0) hC dX7_keep_44 rfl rfl (by first | exact Or.inr ⟨_, rfl⟩ | exact Or.inl rfl | exact kv_isR | exact aref_isR) ?_
          refine gx_getR hC dX7_keep_45 fl_X7_22 (by first | exact gM.at215 | exact gM.at216 | exact gM.at217 | exact gM.at218 | exact gM.at219 | exact gM.at220 | exact gM.at221 | exact gM.at222 | exact gM.at223 | exact gM.at224 | exact gM.at225) rfl (gM.r220) (by decide) ?_
          refine gx_iload_n (i := 1) hC dX7_keep_48 rfl rfl ?_
          refine gx_iconst (v := 1) hC dX7_keep_49 ic_1 ?_
          refine gx_zast hC dX7_keep_50 (by first | exact gM.at215 | exact gM.at216 | exact gM.at217 | exact gM.at218 | exact gM.at219 | exact gM.at220 | exact gM.at221 | exact gM.at222 | exact gM.at223 | exact gM.at224 | exact gM.at225) (by exact vpn (by omega) (by decide)) (by first | exact Or.inl rfl | exact Or.inr rfl | exact b2_bit _ | assumption) ?_
          refine gx_aload_n (i := 0) hC dX7_keep_51 rfl rfl (by first | exact Or.inr ⟨_, rfl⟩ | exact Or.inl rfl | exact kv_isR | exact aref_isR) ?_
          refine gx_getR hC dX7_keep_52 fl_X7_7 (by first | exact gM.at215 | exact gM.at216 | exact gM.at217 | exact gM.at218 | exact gM.at219 | exact gM.at220 | exact gM.at221 | exact gM.at222 | exact gM.at223 | exact gM.at224 | exact gM.at225) rfl (gM.r216) (by decide) ?_
          refine gx_iconst (v := nI 0) hC dX7_keep_55 ic_0n ?_
          refine gx_iald hC dX7_keep_56 (by first | exact gM.at215 | exact gM.at216 | exact gM.at217 | exact gM.at218 | exact gM.at219 | exact gM.at220 | exact gM.at221 | exact gM.at222 | exact gM.at223 | exact gM.at224 | exact gM.at225) (by exact vpn (by omega) (by decide)) ((up2_off (fun e => absurd e.1 (by decide))).trans (pRn (by omega))) ?_
          exact gx_iret hC hQ dX7_keep_57 (rfl) ((by rw [show 154 = a by omega, up_Ro (by decide), nI_clamp (by omega)])) rfl
        · have d_17 := cnle (by omega) (by omega) c_17
          refine gx_aload_n (i := 0) hC dX7_keep_20 rfl rfl (by first | exact Or.inr ⟨_, rfl⟩ | exact Or.inl rfl | exact kv_isR | exact aref_isR) ?_
          refine gx_getR hC dX7_keep_21 fl_X7_19 (by first | exact gM.at215 | exact gM.at216 | exact gM.at217 | exact gM.at218 | exact gM.at219 | exact gM.at220 | exact gM.at221 | exact gM.at222 | exact gM.at223 | exact gM.at224 | exact gM.at225) rfl (gM.r219) (by decide) ?_
          refine gx_sipush (v := nI 154) hC dX7_keep_24 sp_154n ?_
          refine gx_iload_n (i := 1) hC dX7_keep_27 rfl rfl ?_
          refine gx_imul hC dX7_keep_28 ?_
          rw [pk_mul]
          refine gx_iload_n (i := 2) hC dX7_keep_29 rfl rfl ?_
          refine gx_iadd hC dX7_keep_30 ?_
          rw [nI_add]
          refine gx_aload_n (i := 0) hC dX7_keep_31 rfl rfl (by first | exact Or.inr ⟨_, rfl⟩ | exact Or.inl rfl | exact kv_isR | exact aref_isR) ?_
          refine gx_getR hC dX7_keep_32 fl_X7_7 (by first | exact gM.at215 | exact gM.at216 | exact gM.at217 | exact gM.at218 | exact gM.at219 | exact gM.at220 | exact gM.at221 | exact gM.at222 | exact gM.at223 | exact gM.at224 | exact gM.at225) rfl (gM.r216) (by decide) ?_
          refine gx_iload_n (i := 2) hC dX7_keep_35 rfl rfl ?_
          refine gx_iald hC dX7_keep_36 (by first | exact gM.at215 | exact gM.at216 | exact gM.at217 | exact gM.at218 | exact gM.at219 | exact gM.at220 | exact gM.at221 | exact gM.at222 | exact gM.at223 | exact gM.at224 | exact gM.at225) (by exact vpn (by omega) (by decide)) (pRn (by omega)) ?_
          refine gx_iastM hC dX7_keep_37 (by first | exact gM.at215 | exact gM.at216 | exact gM.at217 | exact gM.at218 | exact gM.at219 | exact gM.at220 | exact gM.at221 | exact gM.at222 | exact gM.at223 | exact gM.at224 | exact gM.at225) (by exact vpn (by omega) (by decide)) ((up_Ro (by decide)).trans (congrArg (fun t => putRow t 216 v) (up_Rn (by omega)))) ?_
          refine gx_iinc (i := 2) (L' := [_, _, _]) hC dX7_keep_38 rfl (ii_1 _) (Nat.le_of_ble_eq_true rfl) rfl (fun u h9 => by first | exact Or.inl rfl | (cases h9; done) | (right; cases h9; first | rfl | exact isR_cat aref_isR | exact isR_cat kv_isR)) ?_
          refine gx_goto (tgt := 13) hC dX7_keep_41 (by decide) ?_
          have h9 := ih (a + 1) (by omega) (by omega)
          rw [← cpy_s] at h9
          exact h9
    have h8 := loop_13 155 0 (by omega) (by omega)
    rw [cpy_0, putRow_get] at h8
    exact h8
  · exact absurd (hx.symm.trans c_6) (by decide)
set_option maxHeartbeats 4000000 in
set_option maxRecDepth 20000 in
theorem c0_X7_restore (l : Launch) (z : hZt) {n : Nat} {M : hMem} {R : hRef} (gM : gMd n R) {v : Nat → Int32} {x : Int32} (hx : bIn x 0 1 = false) : hCt l z m_X7_restore [.ref (z.1 + 215), .int x] n (putRow M 216 v) R n (some (.int (-1))) (putRow M 216 v) R := by
  refine hs_start [some (.ref (z.1 + 215)), some (.int x), none] (by decide +kernel) rfl (by intro u hu; simp at hu; rcases hu with rfl | rfl <;> first | rfl | exact isR_cat kv_isR | exact isR_cat aref_isR) (Nat.le_of_ble_eq_true rfl) (Nat.le_refl _) (fun X hlX hN hC hQ => ?_)
  dsimp only at hC hQ
  refine gx_iload_n (i := 1) hC dX7_restore_0 rfl rfl ?_
  refine gx_iconst (v := 0) hC dX7_restore_1 ic_0 ?_
  refine gx_iconst (v := 1) hC dX7_restore_2 ic_1 ?_
  refine gx_callS1 hC dX7_restore_3 (c_X7_in _ _ _ _ _) kY_X7_in kS_X7_in ml_X7_41 (by decide) rfl rfl rfl (by first | exact Nat.le_of_ble_eq_true rfl | (simp [Value.category, isR_cat kv_isR, isR_cat aref_isR]; done)) (Nat.le_refl _) (Nat.le_refl _) ?_
  refine gx_ifb_ne (tgt := 11) hC dX7_restore_6 (by decide) (fun c_6 => ?_) (fun c_6 => ?_)
  · exact absurd (hx.symm.trans c_6) (by decide)
  · refine gx_iconst (v := -1) hC dX7_restore_9 ic_m1 ?_
    exact gx_iret hC hQ dX7_restore_10 (rfl) (rfl) rfl
set_option maxHeartbeats 4000000 in
set_option maxRecDepth 20000 in
theorem c1_X7_restore (l : Launch) (z : hZt) {n : Nat} {M : hMem} {R : hRef} (gM : gMd n R) {v : Nat → Int32} {sl : Nat} (hsl : sl < 2) (hx : bIn (nI sl) 0 1 = true) (hkp : M 220 sl = 0) : hCt l z m_X7_restore [.ref (z.1 + 215), .int (nI sl)] n (putRow M 216 v) R n (some (.int (-3))) (putRow M 216 v) R := by
  refine hs_start [some (.ref (z.1 + 215)), some (.int (nI sl)), none] (by decide +kernel) rfl (by intro u hu; simp at hu; rcases hu with rfl | rfl <;> first | rfl | exact isR_cat kv_isR | exact isR_cat aref_isR) (Nat.le_of_ble_eq_true rfl) (Nat.le_refl _) (fun X hlX hN hC hQ => ?_)
  dsimp only at hC hQ
  refine gx_iload_n (i := 1) hC dX7_restore_0 rfl rfl ?_
  refine gx_iconst (v := 0) hC dX7_restore_1 ic_0 ?_
  refine gx_iconst (v := 1) hC dX7_restore_2 ic_1 ?_
  refine gx_callS1 hC dX7_restore_3 (c_X7_in _ _ _ _ _) kY_X7_in kS_X7_in ml_X7_41 (by decide) rfl rfl rfl (by first | exact Nat.le_of_ble_eq_true rfl | (simp [Value.category, isR_cat kv_isR, isR_cat aref_isR]; done)) (Nat.le_refl _) (Nat.le_refl _) ?_
  refine gx_ifb_ne (tgt := 11) hC dX7_restore_6 (by decide) (fun c_6 => ?_) (fun c_6 => ?_)
  · refine gx_aload_n (i := 0) hC dX7_restore_11 rfl rfl (by first | exact Or.inr ⟨_, rfl⟩ | exact Or.inl rfl | exact kv_isR | exact aref_isR) ?_
    refine gx_getR hC dX7_restore_12 fl_X7_22 (by first | exact gM.at215 | exact gM.at216 | exact gM.at217 | exact gM.at218 | exact gM.at219 | exact gM.at220 | exact gM.at221 | exact gM.at222 | exact gM.at223 | exact gM.at224 | exact gM.at225) rfl (gM.r220) (by decide) ?_
    refine gx_iload_n (i := 1) hC dX7_restore_15 rfl rfl ?_
    refine gx_zald hC dX7_restore_16 (by first | exact gM.at215 | exact gM.at216 | exact gM.at217 | exact gM.at218 | exact gM.at219 | exact gM.at220 | exact gM.at221 | exact gM.at222 | exact gM.at223 | exact gM.at224 | exact gM.at225) (by exact vpn (by omega) (by decide)) ((pRo (by decide)).trans (congrArg (M 220) (nI_clamp (by omega)))) (fun hz_16 => ?_)
    refine gx_if_ne (tgt := 23) hC dX7_restore_17 (by decide) (fun c_17 => ?_) (fun c_17 => ?_)
    · exact absurd hkp c_17
    · refine gx_bipush (v := -3) hC dX7_restore_20 bp_m3 ?_
      exact gx_iret hC hQ dX7_restore_22 (rfl) (rfl) rfl
  · exact absurd (hx.symm.trans c_6) (by decide)
set_option maxHeartbeats 4000000 in
set_option maxRecDepth 20000 in
theorem c_X7_restore (l : Launch) (z : hZt) {n : Nat} {M : hMem} {R : hRef} (gM : gMd n R) {v : Nat → Int32} {q : Nat} (hq5 : q ≤ 5) (hq : M 215 2 = nI q) {sl : Nat} (hsl : sl < 2) (hx : bIn (nI sl) 0 1 = true) (hkp : ¬ M 220 sl = 0) : hCt l z m_X7_restore [.ref (z.1 + 215), .int (nI sl)] n (putRow M 216 v) R n (some (.int (cpy v 0 (fun k => M 219 (154 * sl + k)) 154 0))) (putRow (mRc M v q) 216 (cpy v 0 (fun k => M 219 (154 * sl + k)) 154)) R := by
  refine hs_start [some (.ref (z.1 + 215)), some (.int (nI sl)), none] (by decide +kernel) rfl (by intro u hu; simp at hu; rcases hu with rfl | rfl <;> first | rfl | exact isR_cat kv_isR | exact isR_cat aref_isR) (Nat.le_of_ble_eq_true rfl) (Nat.le_refl _) (fun X hlX hN hC hQ => ?_)
  dsimp only at hC hQ
  refine gx_iload_n (i := 1) hC dX7_restore_0 rfl rfl ?_
  refine gx_iconst (v := 0) hC dX7_restore_1 ic_0 ?_
  refine gx_iconst (v := 1) hC dX7_restore_2 ic_1 ?_
  refine gx_callS1 hC dX7_restore_3 (c_X7_in _ _ _ _ _) kY_X7_in kS_X7_in ml_X7_41 (by decide) rfl rfl rfl (by first | exact Nat.le_of_ble_eq_true rfl | (simp [Value.category, isR_cat kv_isR, isR_cat aref_isR]; done)) (Nat.le_refl _) (Nat.le_refl _) ?_
  refine gx_ifb_ne (tgt := 11) hC dX7_restore_6 (by decide) (fun c_6 => ?_) (fun c_6 => ?_)
  · refine gx_aload_n (i := 0) hC dX7_restore_11 rfl rfl (by first | exact Or.inr ⟨_, rfl⟩ | exact Or.inl rfl | exact kv_isR | exact aref_isR) ?_
    refine gx_getR hC dX7_restore_12 fl_X7_22 (by first | exact gM.at215 | exact gM.at216 | exact gM.at217 | exact gM.at218 | exact gM.at219 | exact gM.at220 | exact gM.at221 | exact gM.at222 | exact gM.at223 | exact gM.at224 | exact gM.at225) rfl (gM.r220) (by decide) ?_
    refine gx_iload_n (i := 1) hC dX7_restore_15 rfl rfl ?_
    refine gx_zald hC dX7_restore_16 (by first | exact gM.at215 | exact gM.at216 | exact gM.at217 | exact gM.at218 | exact gM.at219 | exact gM.at220 | exact gM.at221 | exact gM.at222 | exact gM.at223 | exact gM.at224 | exact gM.at225) (by exact vpn (by omega) (by decide)) ((pRo (by decide)).trans (congrArg (M 220) (nI_clamp (by omega)))) (fun hz_16 => ?_)
    refine gx_if_ne (tgt := 23) hC dX7_restore_17 (by decide) (fun c_17 => ?_) (fun c_17 => ?_)
    · refine gx_aload_n (i := 0) hC dX7_restore_23 rfl rfl (by first | exact Or.inr ⟨_, rfl⟩ | exact Or.inl rfl | exact kv_isR | exact aref_isR) ?_
      refine gx_callV0 hC dX7_restore_24 (c_X7_records _ _ gM hq5 hq) kY_X7_records kV_X7_records ml_X7_49 (by first | exact gM.at215 | exact gM.at216 | exact gM.at217 | exact gM.at218 | exact gM.at219 | exact gM.at220 | exact gM.at221 | exact gM.at222 | exact gM.at223 | exact gM.at224 | exact gM.at225) rfl (by decide) rfl rfl rfl (by first | exact Nat.le_of_ble_eq_true rfl | (simp [Value.category, isR_cat kv_isR, isR_cat aref_isR]; done)) (Nat.le_refl _) (Nat.le_refl _) ?_
      refine gx_iconst (v := nI 0) hC dX7_restore_27 ic_0n ?_
      refine gx_istore_n (i := 2) (L' := [_, _, _]) hC dX7_restore_28 rfl (Nat.le_of_ble_eq_true rfl) rfl (fun u h9 => by first | exact Or.inl rfl | (cases h9; done) | (right; cases h9; first | rfl | exact isR_cat aref_isR | exact isR_cat kv_isR)) ?_
      have loop_29 : ∀ (k : Nat) (a : Nat), 154 - a < k → a ≤ 154 → hG z n X n (putRow (mRc M v q) 216 (cpy v 0 (fun k => M 219 (154 * sl + k)) a)) R 29 [some (.ref (z.1 + 215)), some (.int (nI sl)), some (.int (nI a))] [] := by
        intro k
        induction k with
        | zero => intros; omega
        | succ k ih =>
          intro a hk1 ha
          refine gx_iload_n (i := 2) hC dX7_restore_29 rfl rfl ?_
          refine gx_sipush (v := nI 154) hC dX7_restore_30 sp_154n ?_
          refine gx_icmp_ge (tgt := 60) hC dX7_restore_33 (by decide) (fun c_33 => ?_) (fun c_33 => ?_)
          · have d_33 := cle (by omega) (by omega) c_33
            refine gx_aload_n (i := 0) hC dX7_restore_60 rfl rfl (by first | exact Or.inr ⟨_, rfl⟩ | exact Or.inl rfl | exact kv_isR | exact aref_isR) ?_
            refine gx_getR hC dX7_restore_61 fl_X7_7 (by first | exact gM.at215 | exact gM.at216 | exact gM.at217 | exact gM.at218 | exact gM.at219 | exact gM.at220 | exact gM.at221 | exact gM.at222 | exact gM.at223 | exact gM.at224 | exact gM.at225) rfl (gM.r216) (by decide) ?_
            refine gx_iconst (v := nI 0) hC dX7_restore_64 ic_0n ?_
            refine gx_iald hC dX7_restore_65 (by first | exact gM.at215 | exact gM.at216 | exact gM.at217 | exact gM.at218 | exact gM.at219 | exact gM.at220 | exact gM.at221 | exact gM.at222 | exact gM.at223 | exact gM.at224 | exact gM.at225) (by exact vpn (by omega) (by decide)) (pRn (by omega)) ?_
            exact gx_iret hC hQ dX7_restore_66 ((by rw [show 154 = a by omega])) ((by rw [show 154 = a by omega])) rfl
          · have d_33 := cnle (by omega) (by omega) c_33
            refine gx_aload_n (i := 0) hC dX7_restore_36 rfl rfl (by first | exact Or.inr ⟨_, rfl⟩ | exact Or.inl rfl | exact kv_isR | exact aref_isR) ?_
            refine gx_getR hC dX7_restore_37 fl_X7_7 (by first | exact gM.at215 | exact gM.at216 | exact gM.at217 | exact gM.at218 | exact gM.at219 | exact gM.at220 | exact gM.at221 | exact gM.at222 | exact gM.at223 | exact gM.at224 | exact gM.at225) rfl (gM.r216) (by decide) ?_
            refine gx_iload_n (i := 2) hC dX7_restore_40 rfl rfl ?_
            refine gx_aload_n (i := 0) hC dX7_restore_41 rfl rfl (by first | exact Or.inr ⟨_, rfl⟩ | exact Or.inl rfl | exact kv_isR | exact aref_isR) ?_
            refine gx_getR hC dX7_restore_42 fl_X7_19 (by first | exact gM.at215 | exact gM.at216 | exact gM.at217 | exact gM.at218 | exact gM.at219 | exact gM.at220 | exact gM.at221 | exact gM.at222 | exact gM.at223 | exact gM.at224 | exact gM.at225) rfl (gM.r219) (by decide) ?_
            refine gx_sipush (v := nI 154) hC dX7_restore_45 sp_154n ?_
            refine gx_iload_n (i := 1) hC dX7_restore_48 rfl rfl ?_
            refine gx_imul hC dX7_restore_49 ?_
            rw [pk_mul]
            refine gx_iload_n (i := 2) hC dX7_restore_50 rfl rfl ?_
            refine gx_iadd hC dX7_restore_51 ?_
            rw [nI_add]
            refine gx_iald hC dX7_restore_52 (by first | exact gM.at215 | exact gM.at216 | exact gM.at217 | exact gM.at218 | exact gM.at219 | exact gM.at220 | exact gM.at221 | exact gM.at222 | exact gM.at223 | exact gM.at224 | exact gM.at225) (by exact vpn (by omega) (by decide)) ((pRo (by decide)).trans ((mRc_o (by decide) (by decide)).trans (congrArg (M 219) (nI_clamp (by omega))))) ?_
            refine gx_iastM hC dX7_restore_53 (by first | exact gM.at215 | exact gM.at216 | exact gM.at217 | exact gM.at218 | exact gM.at219 | exact gM.at220 | exact gM.at221 | exact gM.at222 | exact gM.at223 | exact gM.at224 | exact gM.at225) (by exact vpn (by omega) (by decide)) (up_Rn (by omega)) ?_
            refine gx_iinc (i := 2) (L' := [_, _, _]) hC dX7_restore_54 rfl (ii_1 _) (Nat.le_of_ble_eq_true rfl) rfl (fun u h9 => by first | exact Or.inl rfl | (cases h9; done) | (right; cases h9; first | rfl | exact isR_cat aref_isR | exact isR_cat kv_isR)) ?_
            refine gx_goto (tgt := 29) hC dX7_restore_57 (by decide) ?_
            have h9 := ih (a + 1) (by omega) (by omega)
            rw [← cpy_s0] at h9
            exact h9
      have h8 := loop_29 155 0 (by omega) (by omega)
      rw [cpy_0] at h8
      exact h8
    · exact absurd c_17 hkp
  · exact absurd (hx.symm.trans c_6) (by decide)
