/-! the model: minutes, what is told, why -/
def mGo (v : Nat → Int32) (lv c : Nat) : Nat → Nat → Int32
  | 0 => v
  | k + 1 => mPs (mGo v lv c k) lv c
theorem MW.go {v : Nat → Int32} {lv c : Nat} (h : MW v lv c) (k : Nat) : MW (mGo v lv c k) lv c := by
  induction k with
  | zero => exact h
  | succ k ih => exact ih.ps
def oB (q : Option Nat) : Int32 := match q with
  | some _ => 1
  | none => 0
def mGc (v : Nat → Int32) (lv c : Nat) : Nat → Int32
  | 0 => 0
  | k + 1 => mGc v lv c k + oB (mPa (mGo v lv c k) c)
set_option maxHeartbeats 4000000 in
set_option maxRecDepth 20000 in
theorem c_X7_minutesPass (l : Launch) (z : hZt) {n : Nat} {M : hMem} {R : hRef} (gM : gMd n R) {v : Nat → Int32} {lv c : Nat} (hW : MW v lv c) (hR3 : CR M) (hl1 : 1 ≤ lv) {m : Nat} (hm : m < 2 ^ 31) : hCt l z m_X7_minutesPass [.ref (z.1 + 215), .int (nI m)] n (putRow M 216 v) R n (some (.int (mGc v lv c m))) (putRow M 216 (mGo v lv c m)) R := by
  refine hs_start [some (.ref (z.1 + 215)), some (.int (nI m)), none, none] (by decide +kernel) rfl (by intro u hu; simp at hu; rcases hu with rfl | rfl <;> first | rfl | exact isR_cat kv_isR | exact isR_cat aref_isR) (Nat.le_of_ble_eq_true rfl) (Nat.le_refl _) (fun X hlX hN hC hQ => ?_)
  dsimp only at hC hQ
  have hc20 := hW.c20
  have hl16 := hW.l16
  refine gx_iconst (v := 0) hC dX7_minutesPass_0 ic_0 ?_
  refine gx_istore_n (i := 2) (L' := [_, _, _, _]) hC dX7_minutesPass_1 rfl (Nat.le_of_ble_eq_true rfl) rfl (fun u h9 => by first | exact Or.inl rfl | (cases h9; done) | (right; cases h9; first | rfl | exact isR_cat aref_isR | exact isR_cat kv_isR)) ?_
  refine gx_iconst (v := nI 0) hC dX7_minutesPass_2 ic_0n ?_
  refine gx_istore_n (i := 3) (L' := [_, _, _, _]) hC dX7_minutesPass_3 rfl (Nat.le_of_ble_eq_true rfl) rfl (fun u h9 => by first | exact Or.inl rfl | (cases h9; done) | (right; cases h9; first | rfl | exact isR_cat aref_isR | exact isR_cat kv_isR)) ?_
  have loop_4 : ∀ (k : Nat) (k2 : Nat), m - k2 < k → k2 ≤ m → hG z n X n (putRow M 216 (mGo v lv c k2)) R 4 [some (.ref (z.1 + 215)), some (.int (nI m)), some (.int (mGc v lv c k2)), some (.int (nI k2))] [] := by
    intro k
    induction k with
    | zero => intros; omega
    | succ k ih =>
      intro k2 hk1 ha
      refine gx_iload_n (i := 3) hC dX7_minutesPass_4 rfl rfl ?_
      refine gx_iload_n (i := 1) hC dX7_minutesPass_5 rfl rfl ?_
      refine gx_icmp_ge (tgt := 30) hC dX7_minutesPass_6 (by decide) (fun c_6 => ?_) (fun c_6 => ?_)
      · have d_6 := cle (by omega) (by omega) c_6
        refine gx_iload_n (i := 2) hC dX7_minutesPass_30 rfl rfl ?_
        exact gx_iret hC hQ dX7_minutesPass_31 ((by rw [show m = k2 by omega])) ((by rw [show m = k2 by omega])) rfl
      · have d_6 := cnle (by omega) (by omega) c_6
        refine gx_iload_n (i := 2) hC dX7_minutesPass_9 rfl rfl ?_
        refine gx_aload_n (i := 0) hC dX7_minutesPass_10 rfl rfl (by first | exact Or.inr ⟨_, rfl⟩ | exact Or.inl rfl | exact kv_isR | exact aref_isR) ?_
        refine gx_callV1 hC dX7_minutesPass_11 (c_X7_passes _ _ gM (hW.go k2) hR3 hl1) kY_X7_passes kV_X7_passes ml_X7_110 (by first | exact gM.at215 | exact gM.at216 | exact gM.at217 | exact gM.at218 | exact gM.at219 | exact gM.at220 | exact gM.at221 | exact gM.at222 | exact gM.at223 | exact gM.at224 | exact gM.at225) rfl (by decide) rfl rfl rfl (by first | exact Nat.le_of_ble_eq_true rfl | (simp [Value.category, isR_cat kv_isR, isR_cat aref_isR]; done)) (Nat.le_refl _) (Nat.le_refl _) ?_
        refine gx_if_lt (tgt := 21) hC dX7_minutesPass_14 (by decide) (fun c_14 => ?_) (fun c_14 => ?_)
        · refine gx_iconst (v := 0) hC dX7_minutesPass_21 ic_0 ?_
          refine gx_iadd hC dX7_minutesPass_22 ?_
          refine gx_istore_n (i := 2) (L' := [_, _, _, _]) hC dX7_minutesPass_23 rfl (Nat.le_of_ble_eq_true rfl) rfl (fun u h9 => by first | exact Or.inl rfl | (cases h9; done) | (right; cases h9; first | rfl | exact isR_cat aref_isR | exact isR_cat kv_isR)) ?_
          refine gx_iinc (i := 3) (L' := [_, _, _, _]) hC dX7_minutesPass_24 rfl (ii_1 _) (Nat.le_of_ble_eq_true rfl) rfl (fun u h9 => by first | exact Or.inl rfl | (cases h9; done) | (right; cases h9; first | rfl | exact isR_cat aref_isR | exact isR_cat kv_isR)) ?_
          refine gx_goto (tgt := 4) hC dX7_minutesPass_27 (by decide) ?_
          have h9 := ih (k2 + 1) (by omega) (by omega)
          rw [mGc, oI_n0 c_14 (fun j e => by have := mPa_lt e; omega)] at h9
          exact h9
        · refine gx_iconst (v := 1) hC dX7_minutesPass_17 ic_1 ?_
          refine gx_goto (tgt := 22) hC dX7_minutesPass_18 (by decide) ?_
          refine gx_iadd hC dX7_minutesPass_22 ?_
          refine gx_istore_n (i := 2) (L' := [_, _, _, _]) hC dX7_minutesPass_23 rfl (Nat.le_of_ble_eq_true rfl) rfl (fun u h9 => by first | exact Or.inl rfl | (cases h9; done) | (right; cases h9; first | rfl | exact isR_cat aref_isR | exact isR_cat kv_isR)) ?_
          refine gx_iinc (i := 3) (L' := [_, _, _, _]) hC dX7_minutesPass_24 rfl (ii_1 _) (Nat.le_of_ble_eq_true rfl) rfl (fun u h9 => by first | exact Or.inl rfl | (cases h9; done) | (right; cases h9; first | rfl | exact isR_cat aref_isR | exact isR_cat kv_isR)) ?_
          refine gx_goto (tgt := 4) hC dX7_minutesPass_27 (by decide) ?_
          obtain ⟨b, e8⟩ := oI_s0 c_14
          have h9 := ih (k2 + 1) (by omega) (by omega)
          rw [mGc, e8] at h9
          exact h9
  exact loop_4 (m + 1) 0 (by omega) (by omega)
set_option maxHeartbeats 4000000 in
set_option maxRecDepth 20000 in
theorem c0_X7_pass (l : Launch) (z : hZt) {n : Nat} {M : hMem} {R : hRef} (gM : gMd n R) {v : Nat → Int32} {x : Int32} (hx : bIn x 1 99 = false) : hCt l z m_X7_pass [.ref (z.1 + 215), .int x] n (putRow M 216 v) R n (some (.int (-2))) (putRow M 216 v) R := by
  refine hs_start [some (.ref (z.1 + 215)), some (.int x)] (by decide +kernel) rfl (by intro u hu; simp at hu; rcases hu with rfl | rfl <;> first | rfl | exact isR_cat kv_isR | exact isR_cat aref_isR) (Nat.le_of_ble_eq_true rfl) (Nat.le_refl _) (fun X hlX hN hC hQ => ?_)
  dsimp only at hC hQ
  refine gx_iload_n (i := 1) hC dX7_pass_0 rfl rfl ?_
  refine gx_iconst (v := 1) hC dX7_pass_1 ic_1 ?_
  refine gx_bipush (v := 99) hC dX7_pass_2 bp_99 ?_
  refine gx_callS1 hC dX7_pass_4 (c_X7_in _ _ _ _ _) kY_X7_in kS_X7_in ml_X7_41 (by decide) rfl rfl rfl (by first | exact Nat.le_of_ble_eq_true rfl | (simp [Value.category, isR_cat kv_isR, isR_cat aref_isR]; done)) (Nat.le_refl _) (Nat.le_refl _) ?_
  refine gx_ifb_ne (tgt := 13) hC dX7_pass_7 (by decide) (fun c_7 => ?_) (fun c_7 => ?_)
  · exact absurd (hx.symm.trans c_7) (by decide)
  · refine gx_bipush (v := -2) hC dX7_pass_10 bp_m2 ?_
    exact gx_iret hC hQ dX7_pass_12 (rfl) (rfl) rfl
set_option maxHeartbeats 4000000 in
set_option maxRecDepth 20000 in
theorem c_X7_pass (l : Launch) (z : hZt) {n : Nat} {M : hMem} {R : hRef} (gM : gMd n R) {v : Nat → Int32} {lv c : Nat} (hW : MW v lv c) (hR3 : CR M) (hl1 : 1 ≤ lv) {q : Nat} (hq5 : q ≤ 5) (hq : M 215 2 = nI q) {m : Nat} (hm : m < 2 ^ 31) (hx : bIn (nI m) 1 99 = true) : hCt l z m_X7_pass [.ref (z.1 + 215), .int (nI m)] n (putRow M 216 v) R n (some (.int (mGc v lv c m))) (putRow (mRc M v q) 216 (mGo v lv c m)) R := by
  refine hs_start [some (.ref (z.1 + 215)), some (.int (nI m))] (by decide +kernel) rfl (by intro u hu; simp at hu; rcases hu with rfl | rfl <;> first | rfl | exact isR_cat kv_isR | exact isR_cat aref_isR) (Nat.le_of_ble_eq_true rfl) (Nat.le_refl _) (fun X hlX hN hC hQ => ?_)
  dsimp only at hC hQ
  have hc20 := hW.c20
  have hl16 := hW.l16
  refine gx_iload_n (i := 1) hC dX7_pass_0 rfl rfl ?_
  refine gx_iconst (v := 1) hC dX7_pass_1 ic_1 ?_
  refine gx_bipush (v := 99) hC dX7_pass_2 bp_99 ?_
  refine gx_callS1 hC dX7_pass_4 (c_X7_in _ _ _ _ _) kY_X7_in kS_X7_in ml_X7_41 (by decide) rfl rfl rfl (by first | exact Nat.le_of_ble_eq_true rfl | (simp [Value.category, isR_cat kv_isR, isR_cat aref_isR]; done)) (Nat.le_refl _) (Nat.le_refl _) ?_
  refine gx_ifb_ne (tgt := 13) hC dX7_pass_7 (by decide) (fun c_7 => ?_) (fun c_7 => ?_)
  · refine gx_aload_n (i := 0) hC dX7_pass_13 rfl rfl (by first | exact Or.inr ⟨_, rfl⟩ | exact Or.inl rfl | exact kv_isR | exact aref_isR) ?_
    refine gx_callV0 hC dX7_pass_14 (c_X7_records _ _ gM hq5 hq) kY_X7_records kV_X7_records ml_X7_49 (by first | exact gM.at215 | exact gM.at216 | exact gM.at217 | exact gM.at218 | exact gM.at219 | exact gM.at220 | exact gM.at221 | exact gM.at222 | exact gM.at223 | exact gM.at224 | exact gM.at225) rfl (by decide) rfl rfl rfl (by first | exact Nat.le_of_ble_eq_true rfl | (simp [Value.category, isR_cat kv_isR, isR_cat aref_isR]; done)) (Nat.le_refl _) (Nat.le_refl _) ?_
    refine gx_aload_n (i := 0) hC dX7_pass_17 rfl rfl (by first | exact Or.inr ⟨_, rfl⟩ | exact Or.inl rfl | exact kv_isR | exact aref_isR) ?_
    refine gx_iload_n (i := 1) hC dX7_pass_18 rfl rfl ?_
    refine gx_callV1 hC dX7_pass_19 (c_X7_minutesPass _ _ gM hW hR3.rc hl1 hm) kY_X7_minutesPass kV_X7_minutesPass ml_X7_113 (by first | exact gM.at215 | exact gM.at216 | exact gM.at217 | exact gM.at218 | exact gM.at219 | exact gM.at220 | exact gM.at221 | exact gM.at222 | exact gM.at223 | exact gM.at224 | exact gM.at225) rfl (by decide) rfl rfl rfl (by first | exact Nat.le_of_ble_eq_true rfl | (simp [Value.category, isR_cat kv_isR, isR_cat aref_isR]; done)) (Nat.le_refl _) (Nat.le_refl _) ?_
    exact gx_iret hC hQ dX7_pass_22 (rfl) (rfl) rfl
  · exact absurd (hx.symm.trans c_7) (by decide)
def mLe (v : Nat → Int32) (c : Nat) (x : Int32) : Int32 := if mLv v x = true then oI (mOn v x c) else -1
set_option maxHeartbeats 4000000 in
set_option maxRecDepth 20000 in
theorem c_X7_level (l : Launch) (z : hZt) {n : Nat} {M : hMem} {R : hRef} (gM : gMd n R) {v : Nat → Int32} {lv c : Nat} (hW : MW v lv c) (x : Int32) : hCt l z m_X7_level [.ref (z.1 + 215), .int x] n (putRow M 216 v) R n (some (.int (mLe v c x))) (putRow M 216 v) R := by
  refine hs_start [some (.ref (z.1 + 215)), some (.int x)] (by decide +kernel) rfl (by intro u hu; simp at hu; rcases hu with rfl | rfl <;> first | rfl | exact isR_cat kv_isR | exact isR_cat aref_isR) (Nat.le_of_ble_eq_true rfl) (Nat.le_refl _) (fun X hlX hN hC hQ => ?_)
  dsimp only at hC hQ
  refine gx_aload_n (i := 0) hC dX7_level_0 rfl rfl (by first | exact Or.inr ⟨_, rfl⟩ | exact Or.inl rfl | exact kv_isR | exact aref_isR) ?_
  refine gx_iload_n (i := 1) hC dX7_level_1 rfl rfl ?_
  refine gx_callV1 hC dX7_level_2 (c_X7_isLevel _ _ gM _) kY_X7_isLevel kV_X7_isLevel ml_X7_64 (by first | exact gM.at215 | exact gM.at216 | exact gM.at217 | exact gM.at218 | exact gM.at219 | exact gM.at220 | exact gM.at221 | exact gM.at222 | exact gM.at223 | exact gM.at224 | exact gM.at225) rfl (by decide) rfl rfl rfl (by first | exact Nat.le_of_ble_eq_true rfl | (simp [Value.category, isR_cat kv_isR, isR_cat aref_isR]; done)) (Nat.le_refl _) (Nat.le_refl _) ?_
  refine gx_ifb_eq (tgt := 16) hC dX7_level_5 (by decide) (fun c_5 => ?_) (fun c_5 => ?_)
  · refine gx_iconst (v := -1) hC dX7_level_16 ic_m1 ?_
    exact gx_iret hC hQ dX7_level_17 ((by simp [mLe, c_5])) (rfl) rfl
  · refine gx_aload_n (i := 0) hC dX7_level_8 rfl rfl (by first | exact Or.inr ⟨_, rfl⟩ | exact Or.inl rfl | exact kv_isR | exact aref_isR) ?_
    refine gx_iload_n (i := 1) hC dX7_level_9 rfl rfl ?_
    refine gx_callV1 hC dX7_level_10 (c_X7_on _ _ gM hW _) kY_X7_on kV_X7_on ml_X7_68 (by first | exact gM.at215 | exact gM.at216 | exact gM.at217 | exact gM.at218 | exact gM.at219 | exact gM.at220 | exact gM.at221 | exact gM.at222 | exact gM.at223 | exact gM.at224 | exact gM.at225) rfl (by decide) rfl rfl rfl (by first | exact Nat.le_of_ble_eq_true rfl | (simp [Value.category, isR_cat kv_isR, isR_cat aref_isR]; done)) (Nat.le_refl _) (Nat.le_refl _) ?_
    refine gx_goto (tgt := 17) hC dX7_level_13 (by decide) ?_
    exact gx_iret hC hQ dX7_level_17 ((by simp [mLe, c_5])) (rfl) rfl
def mCt (v : Nat → Int32) (j w : Nat) : Int32 := if w < 3 then v (14 + 7 * j + w) else if w = 6 then b2 (mSh v j) else
  if w = 7 then (if v (14 + 7 * j + 2) = 0 then -6 else v (14 + 7 * j + 6)) else if v (14 + 7 * j + 2) = 0 then v (14 + 7 * j + w) else -6
set_option maxHeartbeats 4000000 in
set_option maxRecDepth 20000 in
theorem c_X7_craftTells (l : Launch) (z : hZt) {n : Nat} {M : hMem} {R : hRef} (gM : gMd n R) {v : Nat → Int32} {lv c : Nat} (hW : MW v lv c) (hR3 : CR M) {j w : Nat} (hj : j < c) (hw8 : w < 8) : hCt l z m_X7_craftTells [.ref (z.1 + 215), .int (nI j), .int (nI w)] n (putRow M 216 v) R n (some (.int (mCt v j w))) (putRow M 216 v) R := by
  refine hs_start [some (.ref (z.1 + 215)), some (.int (nI j)), some (.int (nI w)), none, none] (by decide +kernel) rfl (by intro u hu; simp at hu; rcases hu with rfl | rfl | rfl <;> first | rfl | exact isR_cat kv_isR | exact isR_cat aref_isR) (Nat.le_of_ble_eq_true rfl) (Nat.le_refl _) (fun X hlX hN hC hQ => ?_)
  dsimp only at hC hQ
  have hc20 := hW.c20
  have hl16 := hW.l16
  refine gx_iload_n (i := 1) hC dX7_craftTells_0 rfl rfl ?_
  refine gx_callS1 hC dX7_craftTells_1 (c_X7_at _ _ _) kY_X7_at kS_X7_at ml_X7_52 (by decide) rfl rfl rfl (by first | exact Nat.le_of_ble_eq_true rfl | (simp [Value.category, isR_cat kv_isR, isR_cat aref_isR]; done)) (Nat.le_refl _) (Nat.le_refl _) ?_
  refine gx_istore_n (i := 3) (L' := [_, _, _, _, _]) hC dX7_craftTells_4 rfl (Nat.le_of_ble_eq_true rfl) rfl (fun u h9 => by first | exact Or.inl rfl | (cases h9; done) | (right; cases h9; first | rfl | exact isR_cat aref_isR | exact isR_cat kv_isR)) ?_
  refine gx_aload_n (i := 0) hC dX7_craftTells_5 rfl rfl (by first | exact Or.inr ⟨_, rfl⟩ | exact Or.inl rfl | exact kv_isR | exact aref_isR) ?_
  refine gx_getR hC dX7_craftTells_6 fl_X7_7 (by first | exact gM.at215 | exact gM.at216 | exact gM.at217 | exact gM.at218 | exact gM.at219 | exact gM.at220 | exact gM.at221 | exact gM.at222 | exact gM.at223 | exact gM.at224 | exact gM.at225) rfl (gM.r216) (by decide) ?_
  refine gx_iload_n (i := 3) hC dX7_craftTells_9 rfl rfl ?_
  refine gx_iconst (v := nI 2) hC dX7_craftTells_10 ic_2n ?_
  refine gx_iadd hC dX7_craftTells_11 ?_
  rw [nI_add]
  refine gx_iald hC dX7_craftTells_12 (by first | exact gM.at215 | exact gM.at216 | exact gM.at217 | exact gM.at218 | exact gM.at219 | exact gM.at220 | exact gM.at221 | exact gM.at222 | exact gM.at223 | exact gM.at224 | exact gM.at225) (by exact vpn (by omega) (by decide)) (pRn (by omega)) ?_
  refine gx_if_ne (tgt := 20) hC dX7_craftTells_13 (by decide) (fun c_13 => ?_) (fun c_13 => ?_)
  · refine gx_iconst (v := 0) hC dX7_craftTells_20 ic_0 ?_
    refine gx_istore (i := 4) (L' := [_, _, _, _, _]) hC dX7_craftTells_21 (Nat.le_of_ble_eq_true rfl) rfl (fun u h9 => by first | exact Or.inl rfl | (cases h9; done) | (right; cases h9; first | rfl | exact isR_cat aref_isR | exact isR_cat kv_isR)) ?_
    refine gx_iload_n (i := 2) hC dX7_craftTells_23 rfl rfl ?_
    refine gx_iconst (v := nI 3) hC dX7_craftTells_24 ic_3n ?_
    refine gx_icmp_ge (tgt := 37) hC dX7_craftTells_25 (by decide) (fun c_25 => ?_) (fun c_25 => ?_)
    · have d_25 := cle (by omega) (by omega) c_25
      refine gx_iload_n (i := 2) hC dX7_craftTells_37 rfl rfl ?_
      refine gx_bipush (v := nI 6) hC dX7_craftTells_38 bp_6n ?_
      refine gx_icmp_ne (tgt := 57) hC dX7_craftTells_40 (by decide) (fun c_40 => ?_) (fun c_40 => ?_)
      · have d_40 : ¬ w = 6 := fun e => c_40 (by rw [e])
        refine gx_iload_n (i := 2) hC dX7_craftTells_57 rfl rfl ?_
        refine gx_bipush (v := nI 7) hC dX7_craftTells_58 bp_7n ?_
        refine gx_icmp_ne (tgt := 85) hC dX7_craftTells_60 (by decide) (fun c_60 => ?_) (fun c_60 => ?_)
        · have d_60 : ¬ w = 7 := fun e => c_60 (by rw [e])
          refine gx_iload hC dX7_craftTells_85 rfl ?_
          refine gx_if_eq (tgt := 101) hC dX7_craftTells_87 (by decide) (fun c_87 => ?_) (fun c_87 => ?_)
          · refine gx_bipush (v := -6) hC dX7_craftTells_101 bp_m6 ?_
            exact gx_iret hC hQ dX7_craftTells_103 ((by rw [mCt, if_neg (by omega), if_neg d_40, if_neg d_60, if_neg c_13])) (rfl) rfl
          · exact absurd rfl c_87
        · have d_60 : w = 7 := (nI_eq (by omega) (by omega)).mp c_60
          refine gx_iload hC dX7_craftTells_63 rfl ?_
          refine gx_if_eq (tgt := 73) hC dX7_craftTells_65 (by decide) (fun c_65 => ?_) (fun c_65 => ?_)
          · refine gx_aload_n (i := 0) hC dX7_craftTells_73 rfl rfl (by first | exact Or.inr ⟨_, rfl⟩ | exact Or.inl rfl | exact kv_isR | exact aref_isR) ?_
            refine gx_getR hC dX7_craftTells_74 fl_X7_7 (by first | exact gM.at215 | exact gM.at216 | exact gM.at217 | exact gM.at218 | exact gM.at219 | exact gM.at220 | exact gM.at221 | exact gM.at222 | exact gM.at223 | exact gM.at224 | exact gM.at225) rfl (gM.r216) (by decide) ?_
            refine gx_iload_n (i := 3) hC dX7_craftTells_77 rfl rfl ?_
            refine gx_bipush (v := nI 6) hC dX7_craftTells_78 bp_6n ?_
            refine gx_iadd hC dX7_craftTells_80 ?_
            rw [nI_add]
            refine gx_iald hC dX7_craftTells_81 (by first | exact gM.at215 | exact gM.at216 | exact gM.at217 | exact gM.at218 | exact gM.at219 | exact gM.at220 | exact gM.at221 | exact gM.at222 | exact gM.at223 | exact gM.at224 | exact gM.at225) (by exact vpn (by omega) (by decide)) (pRn (by omega)) ?_
            refine gx_goto (tgt := 103) hC dX7_craftTells_82 (by decide) ?_
            exact gx_iret hC hQ dX7_craftTells_103 ((by rw [mCt, if_neg (by omega), if_neg d_40, if_pos d_60, if_neg c_13])) (rfl) rfl
          · exact absurd rfl c_65
      · have d_40 : w = 6 := (nI_eq (by omega) (by omega)).mp c_40
        refine gx_aload_n (i := 0) hC dX7_craftTells_43 rfl rfl (by first | exact Or.inr ⟨_, rfl⟩ | exact Or.inl rfl | exact kv_isR | exact aref_isR) ?_
        refine gx_iload_n (i := 1) hC dX7_craftTells_44 rfl rfl ?_
        refine gx_callV1 hC dX7_craftTells_45 (c_X7_isShort _ _ gM hW hR3 (by omega)) kY_X7_isShort kV_X7_isShort ml_X7_101 (by first | exact gM.at215 | exact gM.at216 | exact gM.at217 | exact gM.at218 | exact gM.at219 | exact gM.at220 | exact gM.at221 | exact gM.at222 | exact gM.at223 | exact gM.at224 | exact gM.at225) rfl (by decide) rfl rfl rfl (by first | exact Nat.le_of_ble_eq_true rfl | (simp [Value.category, isR_cat kv_isR, isR_cat aref_isR]; done)) (Nat.le_refl _) (Nat.le_refl _) ?_
        refine gx_ifb_eq (tgt := 55) hC dX7_craftTells_48 (by decide) (fun c_48 => ?_) (fun c_48 => ?_)
        · refine gx_iconst (v := 0) hC dX7_craftTells_55 ic_0 ?_
          exact gx_iret hC hQ dX7_craftTells_56 ((by rw [mCt, if_neg (by omega), if_pos d_40, c_48]; rfl)) (rfl) rfl
        · refine gx_iconst (v := 1) hC dX7_craftTells_51 ic_1 ?_
          refine gx_goto (tgt := 56) hC dX7_craftTells_52 (by decide) ?_
          exact gx_iret hC hQ dX7_craftTells_56 ((by rw [mCt, if_neg (by omega), if_pos d_40, c_48]; rfl)) (rfl) rfl
    · have d_25 := cnle (by omega) (by omega) c_25
      refine gx_aload_n (i := 0) hC dX7_craftTells_28 rfl rfl (by first | exact Or.inr ⟨_, rfl⟩ | exact Or.inl rfl | exact kv_isR | exact aref_isR) ?_
      refine gx_getR hC dX7_craftTells_29 fl_X7_7 (by first | exact gM.at215 | exact gM.at216 | exact gM.at217 | exact gM.at218 | exact gM.at219 | exact gM.at220 | exact gM.at221 | exact gM.at222 | exact gM.at223 | exact gM.at224 | exact gM.at225) rfl (gM.r216) (by decide) ?_
      refine gx_iload_n (i := 3) hC dX7_craftTells_32 rfl rfl ?_
      refine gx_iload_n (i := 2) hC dX7_craftTells_33 rfl rfl ?_
      refine gx_iadd hC dX7_craftTells_34 ?_
      rw [nI_add]
      refine gx_iald hC dX7_craftTells_35 (by first | exact gM.at215 | exact gM.at216 | exact gM.at217 | exact gM.at218 | exact gM.at219 | exact gM.at220 | exact gM.at221 | exact gM.at222 | exact gM.at223 | exact gM.at224 | exact gM.at225) (by exact vpn (by omega) (by decide)) (pRn (by omega)) ?_
      exact gx_iret hC hQ dX7_craftTells_36 ((by rw [mCt, if_pos (by omega)])) (rfl) rfl
  · refine gx_iconst (v := 1) hC dX7_craftTells_16 ic_1 ?_
    refine gx_goto (tgt := 21) hC dX7_craftTells_17 (by decide) ?_
    refine gx_istore (i := 4) (L' := [_, _, _, _, _]) hC dX7_craftTells_21 (Nat.le_of_ble_eq_true rfl) rfl (fun u h9 => by first | exact Or.inl rfl | (cases h9; done) | (right; cases h9; first | rfl | exact isR_cat aref_isR | exact isR_cat kv_isR)) ?_
    refine gx_iload_n (i := 2) hC dX7_craftTells_23 rfl rfl ?_
    refine gx_iconst (v := nI 3) hC dX7_craftTells_24 ic_3n ?_
    refine gx_icmp_ge (tgt := 37) hC dX7_craftTells_25 (by decide) (fun c_25 => ?_) (fun c_25 => ?_)
    · have d_25 := cle (by omega) (by omega) c_25
      refine gx_iload_n (i := 2) hC dX7_craftTells_37 rfl rfl ?_
      refine gx_bipush (v := nI 6) hC dX7_craftTells_38 bp_6n ?_
      refine gx_icmp_ne (tgt := 57) hC dX7_craftTells_40 (by decide) (fun c_40 => ?_) (fun c_40 => ?_)
      · have d_40 : ¬ w = 6 := fun e => c_40 (by rw [e])
        refine gx_iload_n (i := 2) hC dX7_craftTells_57 rfl rfl ?_
        refine gx_bipush (v := nI 7) hC dX7_craftTells_58 bp_7n ?_
        refine gx_icmp_ne (tgt := 85) hC dX7_craftTells_60 (by decide) (fun c_60 => ?_) (fun c_60 => ?_)
        · have d_60 : ¬ w = 7 := fun e => c_60 (by rw [e])
          refine gx_iload hC dX7_craftTells_85 rfl ?_
          refine gx_if_eq (tgt := 101) hC dX7_craftTells_87 (by decide) (fun c_87 => ?_) (fun c_87 => ?_)
          · exact absurd c_87 (by decide)
          · refine gx_aload_n (i := 0) hC dX7_craftTells_90 rfl rfl (by first | exact Or.inr ⟨_, rfl⟩ | exact Or.inl rfl | exact kv_isR | exact aref_isR) ?_
            refine gx_getR hC dX7_craftTells_91 fl_X7_7 (by first | exact gM.at215 | exact gM.at216 | exact gM.at217 | exact gM.at218 | exact gM.at219 | exact gM.at220 | exact gM.at221 | exact gM.at222 | exact gM.at223 | exact gM.at224 | exact gM.at225) rfl (gM.r216) (by decide) ?_
            refine gx_iload_n (i := 3) hC dX7_craftTells_94 rfl rfl ?_
            refine gx_iload_n (i := 2) hC dX7_craftTells_95 rfl rfl ?_
            refine gx_iadd hC dX7_craftTells_96 ?_
            rw [nI_add]
            refine gx_iald hC dX7_craftTells_97 (by first | exact gM.at215 | exact gM.at216 | exact gM.at217 | exact gM.at218 | exact gM.at219 | exact gM.at220 | exact gM.at221 | exact gM.at222 | exact gM.at223 | exact gM.at224 | exact gM.at225) (by exact vpn (by omega) (by decide)) (pRn (by omega)) ?_
            refine gx_goto (tgt := 103) hC dX7_craftTells_98 (by decide) ?_
            exact gx_iret hC hQ dX7_craftTells_103 ((by rw [mCt, if_neg (by omega), if_neg d_40, if_neg d_60, if_pos c_13])) (rfl) rfl
        · have d_60 : w = 7 := (nI_eq (by omega) (by omega)).mp c_60
          refine gx_iload hC dX7_craftTells_63 rfl ?_
          refine gx_if_eq (tgt := 73) hC dX7_craftTells_65 (by decide) (fun c_65 => ?_) (fun c_65 => ?_)
          · exact absurd c_65 (by decide)
          · refine gx_bipush (v := -6) hC dX7_craftTells_68 bp_m6 ?_
            refine gx_goto (tgt := 103) hC dX7_craftTells_70 (by decide) ?_
            exact gx_iret hC hQ dX7_craftTells_103 ((by rw [mCt, if_neg (by omega), if_neg d_40, if_pos d_60, if_pos c_13])) (rfl) rfl
      · have d_40 : w = 6 := (nI_eq (by omega) (by omega)).mp c_40
        refine gx_aload_n (i := 0) hC dX7_craftTells_43 rfl rfl (by first | exact Or.inr ⟨_, rfl⟩ | exact Or.inl rfl | exact kv_isR | exact aref_isR) ?_
        refine gx_iload_n (i := 1) hC dX7_craftTells_44 rfl rfl ?_
        refine gx_callV1 hC dX7_craftTells_45 (c_X7_isShort _ _ gM hW hR3 (by omega)) kY_X7_isShort kV_X7_isShort ml_X7_101 (by first | exact gM.at215 | exact gM.at216 | exact gM.at217 | exact gM.at218 | exact gM.at219 | exact gM.at220 | exact gM.at221 | exact gM.at222 | exact gM.at223 | exact gM.at224 | exact gM.at225) rfl (by decide) rfl rfl rfl (by first | exact Nat.le_of_ble_eq_true rfl | (simp [Value.category, isR_cat kv_isR, isR_cat aref_isR]; done)) (Nat.le_refl _) (Nat.le_refl _) ?_
        refine gx_ifb_eq (tgt := 55) hC dX7_craftTells_48 (by decide) (fun c_48 => ?_) (fun c_48 => ?_)
        · refine gx_iconst (v := 0) hC dX7_craftTells_55 ic_0 ?_
          exact gx_iret hC hQ dX7_craftTells_56 ((by rw [mCt, if_neg (by omega), if_pos d_40, c_48]; rfl)) (rfl) rfl
        · refine gx_iconst (v := 1) hC dX7_craftTells_51 ic_1 ?_
          refine gx_goto (tgt := 56) hC dX7_craftTells_52 (by decide) ?_
          exact gx_iret hC hQ dX7_craftTells_56 ((by rw [mCt, if_neg (by omega), if_pos d_40, c_48]; rfl)) (rfl) rfl
    · have d_25 := cnle (by omega) (by omega) c_25
      refine gx_aload_n (i := 0) hC dX7_craftTells_28 rfl rfl (by first | exact Or.inr ⟨_, rfl⟩ | exact Or.inl rfl | exact kv_isR | exact aref_isR) ?_
      refine gx_getR hC dX7_craftTells_29 fl_X7_7 (by first | exact gM.at215 | exact gM.at216 | exact gM.at217 | exact gM.at218 | exact gM.at219 | exact gM.at220 | exact gM.at221 | exact gM.at222 | exact gM.at223 | exact gM.at224 | exact gM.at225) rfl (gM.r216) (by decide) ?_
      refine gx_iload_n (i := 3) hC dX7_craftTells_32 rfl rfl ?_
      refine gx_iload_n (i := 2) hC dX7_craftTells_33 rfl rfl ?_
      refine gx_iadd hC dX7_craftTells_34 ?_
      rw [nI_add]
      refine gx_iald hC dX7_craftTells_35 (by first | exact gM.at215 | exact gM.at216 | exact gM.at217 | exact gM.at218 | exact gM.at219 | exact gM.at220 | exact gM.at221 | exact gM.at222 | exact gM.at223 | exact gM.at224 | exact gM.at225) (by exact vpn (by omega) (by decide)) (pRn (by omega)) ?_
      exact gx_iret hC hQ dX7_craftTells_36 ((by rw [mCt, if_pos (by omega)])) (rfl) rfl
set_option maxHeartbeats 4000000 in
set_option maxRecDepth 20000 in
theorem c_X7_aircraft (l : Launch) (z : hZt) {n : Nat} {M : hMem} {R : hRef} (gM : gMd n R) {v : Nat → Int32} {lv c : Nat} (hW : MW v lv c) (hR3 : CR M) {j w : Nat} (hj : j < c) (hw : w < 8) (hx : bIn (nI w) 0 7 = true) : hCt l z m_X7_aircraft [.ref (z.1 + 215), .int (nI j), .int (nI w)] n (putRow M 216 v) R n (some (.int (mCt v j w))) (putRow M 216 v) R := by
  refine hs_start [some (.ref (z.1 + 215)), some (.int (nI j)), some (.int (nI w))] (by decide +kernel) rfl (by intro u hu; simp at hu; rcases hu with rfl | rfl | rfl <;> first | rfl | exact isR_cat kv_isR | exact isR_cat aref_isR) (Nat.le_of_ble_eq_true rfl) (Nat.le_refl _) (fun X hlX hN hC hQ => ?_)
  dsimp only at hC hQ
  have hc20 := hW.c20
  have hl16 := hW.l16
  refine gx_aload_n (i := 0) hC dX7_aircraft_0 rfl rfl (by first | exact Or.inr ⟨_, rfl⟩ | exact Or.inl rfl | exact kv_isR | exact aref_isR) ?_
  refine gx_iload_n (i := 1) hC dX7_aircraft_1 rfl rfl ?_
  refine gx_callV1 hC dX7_aircraft_2 (c_X7_isCraft _ _ gM _) kY_X7_isCraft kV_X7_isCraft ml_X7_85 (by first | exact gM.at215 | exact gM.at216 | exact gM.at217 | exact gM.at218 | exact gM.at219 | exact gM.at220 | exact gM.at221 | exact gM.at222 | exact gM.at223 | exact gM.at224 | exact gM.at225) rfl (by decide) rfl rfl rfl (by first | exact Nat.le_of_ble_eq_true rfl | (simp [Value.category, isR_cat kv_isR, isR_cat aref_isR]; done)) (Nat.le_refl _) (Nat.le_refl _) ?_
  refine gx_ifb_eq (tgt := 27) hC dX7_aircraft_5 (by decide) (fun c_5 => ?_) (fun c_5 => ?_)
  · exact absurd ((mCr_n hW hj).symm.trans c_5) (by decide)
  · refine gx_iload_n (i := 2) hC dX7_aircraft_8 rfl rfl ?_
    refine gx_iconst (v := 0) hC dX7_aircraft_9 ic_0 ?_
    refine gx_bipush (v := 7) hC dX7_aircraft_10 bp_7 ?_
    refine gx_callS1 hC dX7_aircraft_12 (c_X7_in _ _ _ _ _) kY_X7_in kS_X7_in ml_X7_41 (by decide) rfl rfl rfl (by first | exact Nat.le_of_ble_eq_true rfl | (simp [Value.category, isR_cat kv_isR, isR_cat aref_isR]; done)) (Nat.le_refl _) (Nat.le_refl _) ?_
    refine gx_ifb_eq (tgt := 27) hC dX7_aircraft_15 (by decide) (fun c_15 => ?_) (fun c_15 => ?_)
    · exact absurd (hx.symm.trans c_15) (by decide)
    · refine gx_aload_n (i := 0) hC dX7_aircraft_18 rfl rfl (by first | exact Or.inr ⟨_, rfl⟩ | exact Or.inl rfl | exact kv_isR | exact aref_isR) ?_
      refine gx_iload_n (i := 1) hC dX7_aircraft_19 rfl rfl ?_
      refine gx_iload_n (i := 2) hC dX7_aircraft_20 rfl rfl ?_
      refine gx_callV1 hC dX7_aircraft_21 (c_X7_craftTells _ _ gM hW hR3 hj hw) kY_X7_craftTells kV_X7_craftTells ml_X7_116 (by first | exact gM.at215 | exact gM.at216 | exact gM.at217 | exact gM.at218 | exact gM.at219 | exact gM.at220 | exact gM.at221 | exact gM.at222 | exact gM.at223 | exact gM.at224 | exact gM.at225) rfl (by decide) rfl rfl rfl (by first | exact Nat.le_of_ble_eq_true rfl | (simp [Value.category, isR_cat kv_isR, isR_cat aref_isR]; done)) (Nat.le_refl _) (Nat.le_refl _) ?_
      refine gx_goto (tgt := 28) hC dX7_aircraft_24 (by decide) ?_
      exact gx_iret hC hQ dX7_aircraft_28 (rfl) (rfl) rfl
set_option maxHeartbeats 4000000 in
set_option maxRecDepth 20000 in
theorem c0_X7_aircraft (l : Launch) (z : hZt) {n : Nat} {M : hMem} {R : hRef} (gM : gMd n R) {v : Nat → Int32} {x y : Int32} (hx : ¬ (mCr v x = true ∧ bIn y 0 7 = true)) : hCt l z m_X7_aircraft [.ref (z.1 + 215), .int x, .int y] n (putRow M 216 v) R n (some (.int (-1))) (putRow M 216 v) R := by
  refine hs_start [some (.ref (z.1 + 215)), some (.int x), some (.int y)] (by decide +kernel) rfl (by intro u hu; simp at hu; rcases hu with rfl | rfl | rfl <;> first | rfl | exact isR_cat kv_isR | exact isR_cat aref_isR) (Nat.le_of_ble_eq_true rfl) (Nat.le_refl _) (fun X hlX hN hC hQ => ?_)
  dsimp only at hC hQ
  refine gx_aload_n (i := 0) hC dX7_aircraft_0 rfl rfl (by first | exact Or.inr ⟨_, rfl⟩ | exact Or.inl rfl | exact kv_isR | exact aref_isR) ?_
  refine gx_iload_n (i := 1) hC dX7_aircraft_1 rfl rfl ?_
  refine gx_callV1 hC dX7_aircraft_2 (c_X7_isCraft _ _ gM _) kY_X7_isCraft kV_X7_isCraft ml_X7_85 (by first | exact gM.at215 | exact gM.at216 | exact gM.at217 | exact gM.at218 | exact gM.at219 | exact gM.at220 | exact gM.at221 | exact gM.at222 | exact gM.at223 | exact gM.at224 | exact gM.at225) rfl (by decide) rfl rfl rfl (by first | exact Nat.le_of_ble_eq_true rfl | (simp [Value.category, isR_cat kv_isR, isR_cat aref_isR]; done)) (Nat.le_refl _) (Nat.le_refl _) ?_
  refine gx_ifb_eq (tgt := 27) hC dX7_aircraft_5 (by decide) (fun c_5 => ?_) (fun c_5 => ?_)
  · refine gx_iconst (v := -1) hC dX7_aircraft_27 ic_m1 ?_
    exact gx_iret hC hQ dX7_aircraft_28 (rfl) (rfl) rfl
  · refine gx_iload_n (i := 2) hC dX7_aircraft_8 rfl rfl ?_
    refine gx_iconst (v := 0) hC dX7_aircraft_9 ic_0 ?_
    refine gx_bipush (v := 7) hC dX7_aircraft_10 bp_7 ?_
    refine gx_callS1 hC dX7_aircraft_12 (c_X7_in _ _ _ _ _) kY_X7_in kS_X7_in ml_X7_41 (by decide) rfl rfl rfl (by first | exact Nat.le_of_ble_eq_true rfl | (simp [Value.category, isR_cat kv_isR, isR_cat aref_isR]; done)) (Nat.le_refl _) (Nat.le_refl _) ?_
    refine gx_ifb_eq (tgt := 27) hC dX7_aircraft_15 (by decide) (fun c_15 => ?_) (fun c_15 => ?_)
    · refine gx_iconst (v := -1) hC dX7_aircraft_27 ic_m1 ?_
      exact gx_iret hC hQ dX7_aircraft_28 (rfl) (rfl) rfl
    · exact absurd ⟨c_5, c_15⟩ hx
def mTl (v : Nat → Int32) (q c w : Nat) : Int32 := if w < 4 then v w else if w < 7 then mCnt v (nI w - 4) c else if w = 7 then v 8 else if w < 12 then v (w - 4) else if w < 17 then v (w - 3) else nI q
set_option maxHeartbeats 4000000 in
set_option maxRecDepth 20000 in
theorem c_X7_tells (l : Launch) (z : hZt) {n : Nat} {M : hMem} {R : hRef} (gM : gMd n R) {v : Nat → Int32} {lv c : Nat} (hW : MW v lv c) {q w : Nat} (hq : M 215 2 = nI q) (hw : w < 18) : hCt l z m_X7_tells [.ref (z.1 + 215), .int (nI w)] n (putRow M 216 v) R n (some (.int (mTl v q c w))) (putRow M 216 v) R := by
  refine hs_start [some (.ref (z.1 + 215)), some (.int (nI w))] (by decide +kernel) rfl (by intro u hu; simp at hu; rcases hu with rfl | rfl <;> first | rfl | exact isR_cat kv_isR | exact isR_cat aref_isR) (Nat.le_of_ble_eq_true rfl) (Nat.le_refl _) (fun X hlX hN hC hQ => ?_)
  dsimp only at hC hQ
  refine gx_iload_n (i := 1) hC dX7_tells_0 rfl rfl ?_
  refine gx_table hC dX7_tells_1 (by decide) (fun c_1 tg ht => ?_) (fun j f hf hj tg ht => ?_) (by decide)
  · rw [nI_toInt (by omega)] at c_1
    obtain rfl : w = 17 := by omega
    obtain rfl : tg = 132 := by omega
    refine gx_aload_n (i := 0) hC dX7_tells_132 rfl rfl (by first | exact Or.inr ⟨_, rfl⟩ | exact Or.inl rfl | exact kv_isR | exact aref_isR) ?_
    refine gx_getI hC dX7_tells_133 fl_X7_45 (by first | exact gM.at215 | exact gM.at216 | exact gM.at217 | exact gM.at218 | exact gM.at219 | exact gM.at220 | exact gM.at221 | exact gM.at222 | exact gM.at223 | exact gM.at224 | exact gM.at225) (by decide) ((pRo (by decide)).trans hq) ?_
    exact gx_iret hC hQ dX7_tells_136 (rfl) (rfl) rfl
  · rw [nI_toInt (by omega)] at hj
    match j, hf with
    | 0, hf =>
      obtain rfl : tg = 84 := by simp at hf; omega
      obtain rfl : w = 0 := by omega
      refine gx_aload_n (i := 0) hC dX7_tells_84 rfl rfl (by first | exact Or.inr ⟨_, rfl⟩ | exact Or.inl rfl | exact kv_isR | exact aref_isR) ?_
      refine gx_getR hC dX7_tells_85 fl_X7_7 (by first | exact gM.at215 | exact gM.at216 | exact gM.at217 | exact gM.at218 | exact gM.at219 | exact gM.at220 | exact gM.at221 | exact gM.at222 | exact gM.at223 | exact gM.at224 | exact gM.at225) rfl (gM.r216) (by decide) ?_
      refine gx_iload_n (i := 1) hC dX7_tells_88 rfl rfl ?_
      refine gx_iald hC dX7_tells_89 (by first | exact gM.at215 | exact gM.at216 | exact gM.at217 | exact gM.at218 | exact gM.at219 | exact gM.at220 | exact gM.at221 | exact gM.at222 | exact gM.at223 | exact gM.at224 | exact gM.at225) (by exact vpn (by omega) (by decide)) (pRn (by omega)) ?_
      exact gx_iret hC hQ dX7_tells_90 (rfl) (rfl) rfl
    | 1, hf =>
      obtain rfl : tg = 84 := by simp at hf; omega
      obtain rfl : w = 1 := by omega
      refine gx_aload_n (i := 0) hC dX7_tells_84 rfl rfl (by first | exact Or.inr ⟨_, rfl⟩ | exact Or.inl rfl | exact kv_isR | exact aref_isR) ?_
      refine gx_getR hC dX7_tells_85 fl_X7_7 (by first | exact gM.at215 | exact gM.at216 | exact gM.at217 | exact gM.at218 | exact gM.at219 | exact gM.at220 | exact gM.at221 | exact gM.at222 | exact gM.at223 | exact gM.at224 | exact gM.at225) rfl (gM.r216) (by decide) ?_
      refine gx_iload_n (i := 1) hC dX7_tells_88 rfl rfl ?_
      refine gx_iald hC dX7_tells_89 (by first | exact gM.at215 | exact gM.at216 | exact gM.at217 | exact gM.at218 | exact gM.at219 | exact gM.at220 | exact gM.at221 | exact gM.at222 | exact gM.at223 | exact gM.at224 | exact gM.at225) (by exact vpn (by omega) (by decide)) (pRn (by omega)) ?_
      exact gx_iret hC hQ dX7_tells_90 (rfl) (rfl) rfl
    | 2, hf =>
      obtain rfl : tg = 84 := by simp at hf; omega
      obtain rfl : w = 2 := by omega
      refine gx_aload_n (i := 0) hC dX7_tells_84 rfl rfl (by first | exact Or.inr ⟨_, rfl⟩ | exact Or.inl rfl | exact kv_isR | exact aref_isR) ?_
      refine gx_getR hC dX7_tells_85 fl_X7_7 (by first | exact gM.at215 | exact gM.at216 | exact gM.at217 | exact gM.at218 | exact gM.at219 | exact gM.at220 | exact gM.at221 | exact gM.at222 | exact gM.at223 | exact gM.at224 | exact gM.at225) rfl (gM.r216) (by decide) ?_
      refine gx_iload_n (i := 1) hC dX7_tells_88 rfl rfl ?_
      refine gx_iald hC dX7_tells_89 (by first | exact gM.at215 | exact gM.at216 | exact gM.at217 | exact gM.at218 | exact gM.at219 | exact gM.at220 | exact gM.at221 | exact gM.at222 | exact gM.at223 | exact gM.at224 | exact gM.at225) (by exact vpn (by omega) (by decide)) (pRn (by omega)) ?_
      exact gx_iret hC hQ dX7_tells_90 (rfl) (rfl) rfl
    | 3, hf =>
      obtain rfl : tg = 84 := by simp at hf; omega
      obtain rfl : w = 3 := by omega
      refine gx_aload_n (i := 0) hC dX7_tells_84 rfl rfl (by first | exact Or.inr ⟨_, rfl⟩ | exact Or.inl rfl | exact kv_isR | exact aref_isR) ?_
      refine gx_getR hC dX7_tells_85 fl_X7_7 (by first | exact gM.at215 | exact gM.at216 | exact gM.at217 | exact gM.at218 | exact gM.at219 | exact gM.at220 | exact gM.at221 | exact gM.at222 | exact gM.at223 | exact gM.at224 | exact gM.at225) rfl (gM.r216) (by decide) ?_
      refine gx_iload_n (i := 1) hC dX7_tells_88 rfl rfl ?_
      refine gx_iald hC dX7_tells_89 (by first | exact gM.at215 | exact gM.at216 | exact gM.at217 | exact gM.at218 | exact gM.at219 | exact gM.at220 | exact gM.at221 | exact gM.at222 | exact gM.at223 | exact gM.at224 | exact gM.at225) (by exact vpn (by omega) (by decide)) (pRn (by omega)) ?_
      exact gx_iret hC hQ dX7_tells_90 (rfl) (rfl) rfl
    | 4, hf =>
      obtain rfl : tg = 91 := by simp at hf; omega
      obtain rfl : w = 4 := by omega
      refine gx_aload_n (i := 0) hC dX7_tells_91 rfl rfl (by first | exact Or.inr ⟨_, rfl⟩ | exact Or.inl rfl | exact kv_isR | exact aref_isR) ?_
      refine gx_iload_n (i := 1) hC dX7_tells_92 rfl rfl ?_
      refine gx_iconst (v := 4) hC dX7_tells_93 ic_4 ?_
      refine gx_isub hC dX7_tells_94 ?_
      refine gx_callV1 hC dX7_tells_95 (c_X7_many _ _ gM hW _) kY_X7_many kV_X7_many ml_X7_119 (by first | exact gM.at215 | exact gM.at216 | exact gM.at217 | exact gM.at218 | exact gM.at219 | exact gM.at220 | exact gM.at221 | exact gM.at222 | exact gM.at223 | exact gM.at224 | exact gM.at225) rfl (by decide) rfl rfl rfl (by first | exact Nat.le_of_ble_eq_true rfl | (simp [Value.category, isR_cat kv_isR, isR_cat aref_isR]; done)) (Nat.le_refl _) (Nat.le_refl _) ?_
      exact gx_iret hC hQ dX7_tells_98 (rfl) (rfl) rfl
    | 5, hf =>
      obtain rfl : tg = 91 := by simp at hf; omega
      obtain rfl : w = 5 := by omega
      refine gx_aload_n (i := 0) hC dX7_tells_91 rfl rfl (by first | exact Or.inr ⟨_, rfl⟩ | exact Or.inl rfl | exact kv_isR | exact aref_isR) ?_
      refine gx_iload_n (i := 1) hC dX7_tells_92 rfl rfl ?_
      refine gx_iconst (v := 4) hC dX7_tells_93 ic_4 ?_
      refine gx_isub hC dX7_tells_94 ?_
      refine gx_callV1 hC dX7_tells_95 (c_X7_many _ _ gM hW _) kY_X7_many kV_X7_many ml_X7_119 (by first | exact gM.at215 | exact gM.at216 | exact gM.at217 | exact gM.at218 | exact gM.at219 | exact gM.at220 | exact gM.at221 | exact gM.at222 | exact gM.at223 | exact gM.at224 | exact gM.at225) rfl (by decide) rfl rfl rfl (by first | exact Nat.le_of_ble_eq_true rfl | (simp [Value.category, isR_cat kv_isR, isR_cat aref_isR]; done)) (Nat.le_refl _) (Nat.le_refl _) ?_
      exact gx_iret hC hQ dX7_tells_98 (rfl) (rfl) rfl
    | 6, hf =>
      obtain rfl : tg = 91 := by simp at hf; omega
      obtain rfl : w = 6 := by omega
      refine gx_aload_n (i := 0) hC dX7_tells_91 rfl rfl (by first | exact Or.inr ⟨_, rfl⟩ | exact Or.inl rfl | exact kv_isR | exact aref_isR) ?_
      refine gx_iload_n (i := 1) hC dX7_tells_92 rfl rfl ?_
      refine gx_iconst (v := 4) hC dX7_tells_93 ic_4 ?_
      refine gx_isub hC dX7_tells_94 ?_
      refine gx_callV1 hC dX7_tells_95 (c_X7_many _ _ gM hW _) kY_X7_many kV_X7_many ml_X7_119 (by first | exact gM.at215 | exact gM.at216 | exact gM.at217 | exact gM.at218 | exact gM.at219 | exact gM.at220 | exact gM.at221 | exact gM.at222 | exact gM.at223 | exact gM.at224 | exact gM.at225) rfl (by decide) rfl rfl rfl (by first | exact Nat.le_of_ble_eq_true rfl | (simp [Value.category, isR_cat kv_isR, isR_cat aref_isR]; done)) (Nat.le_refl _) (Nat.le_refl _) ?_
      exact gx_iret hC hQ dX7_tells_98 (rfl) (rfl) rfl
    | 7, hf =>
      obtain rfl : tg = 99 := by simp at hf; omega
      obtain rfl : w = 7 := by omega
      refine gx_aload_n (i := 0) hC dX7_tells_99 rfl rfl (by first | exact Or.inr ⟨_, rfl⟩ | exact Or.inl rfl | exact kv_isR | exact aref_isR) ?_
      refine gx_getR hC dX7_tells_100 fl_X7_7 (by first | exact gM.at215 | exact gM.at216 | exact gM.at217 | exact gM.at218 | exact gM.at219 | exact gM.at220 | exact gM.at221 | exact gM.at222 | exact gM.at223 | exact gM.at224 | exact gM.at225) rfl (gM.r216) (by decide) ?_
      refine gx_bipush (v := nI 8) hC dX7_tells_103 bp_8n ?_
      refine gx_iald hC dX7_tells_105 (by first | exact gM.at215 | exact gM.at216 | exact gM.at217 | exact gM.at218 | exact gM.at219 | exact gM.at220 | exact gM.at221 | exact gM.at222 | exact gM.at223 | exact gM.at224 | exact gM.at225) (by exact vpn (by omega) (by decide)) (pRn (by omega)) ?_
      exact gx_iret hC hQ dX7_tells_106 (rfl) (rfl) rfl
    | 8, hf =>
      obtain rfl : tg = 107 := by simp at hf; omega
      obtain rfl : w = 8 := by omega
      refine gx_aload_n (i := 0) hC dX7_tells_107 rfl rfl (by first | exact Or.inr ⟨_, rfl⟩ | exact Or.inl rfl | exact kv_isR | exact aref_isR) ?_
      refine gx_getR hC dX7_tells_108 fl_X7_7 (by first | exact gM.at215 | exact gM.at216 | exact gM.at217 | exact gM.at218 | exact gM.at219 | exact gM.at220 | exact gM.at221 | exact gM.at222 | exact gM.at223 | exact gM.at224 | exact gM.at225) rfl (gM.r216) (by decide) ?_
      refine gx_iconst (v := nI 4) hC dX7_tells_111 ic_4n ?_
      refine gx_iload_n (i := 1) hC dX7_tells_112 rfl rfl ?_
      refine gx_iadd hC dX7_tells_113 ?_
      rw [nI_add]
      refine gx_bipush (v := 8) hC dX7_tells_114 bp_8 ?_
      refine gx_isub hC dX7_tells_116 ?_
      rw [show nI (4 + 8) - 8 = nI (8 - 4) by decide]
      refine gx_iald hC dX7_tells_117 (by first | exact gM.at215 | exact gM.at216 | exact gM.at217 | exact gM.at218 | exact gM.at219 | exact gM.at220 | exact gM.at221 | exact gM.at222 | exact gM.at223 | exact gM.at224 | exact gM.at225) (by exact vpn (by omega) (by decide)) (pRn (by omega)) ?_
      exact gx_iret hC hQ dX7_tells_118 (rfl) (rfl) rfl
    | 9, hf =>
      obtain rfl : tg = 107 := by simp at hf; omega
      obtain rfl : w = 9 := by omega
      refine gx_aload_n (i := 0) hC dX7_tells_107 rfl rfl (by first | exact Or.inr ⟨_, rfl⟩ | exact Or.inl rfl | exact kv_isR | exact aref_isR) ?_
      refine gx_getR hC dX7_tells_108 fl_X7_7 (by first | exact gM.at215 | exact gM.at216 | exact gM.at217 | exact gM.at218 | exact gM.at219 | exact gM.at220 | exact gM.at221 | exact gM.at222 | exact gM.at223 | exact gM.at224 | exact gM.at225) rfl (gM.r216) (by decide) ?_
      refine gx_iconst (v := nI 4) hC dX7_tells_111 ic_4n ?_
      refine gx_iload_n (i := 1) hC dX7_tells_112 rfl rfl ?_
      refine gx_iadd hC dX7_tells_113 ?_
      rw [nI_add]
      refine gx_bipush (v := 8) hC dX7_tells_114 bp_8 ?_
      refine gx_isub hC dX7_tells_116 ?_
      rw [show nI (4 + 9) - 8 = nI (9 - 4) by decide]
      refine gx_iald hC dX7_tells_117 (by first | exact gM.at215 | exact gM.at216 | exact gM.at217 | exact gM.at218 | exact gM.at219 | exact gM.at220 | exact gM.at221 | exact gM.at222 | exact gM.at223 | exact gM.at224 | exact gM.at225) (by exact vpn (by omega) (by decide)) (pRn (by omega)) ?_
      exact gx_iret hC hQ dX7_tells_118 (rfl) (rfl) rfl
    | 10, hf =>
      obtain rfl : tg = 107 := by simp at hf; omega
      obtain rfl : w = 10 := by omega
      refine gx_aload_n (i := 0) hC dX7_tells_107 rfl rfl (by first | exact Or.inr ⟨_, rfl⟩ | exact Or.inl rfl | exact kv_isR | exact aref_isR) ?_
      refine gx_getR hC dX7_tells_108 fl_X7_7 (by first | exact gM.at215 | exact gM.at216 | exact gM.at217 | exact gM.at218 | exact gM.at219 | exact gM.at220 | exact gM.at221 | exact gM.at222 | exact gM.at223 | exact gM.at224 | exact gM.at225) rfl (gM.r216) (by decide) ?_
      refine gx_iconst (v := nI 4) hC dX7_tells_111 ic_4n ?_
      refine gx_iload_n (i := 1) hC dX7_tells_112 rfl rfl ?_
      refine gx_iadd hC dX7_tells_113 ?_
      rw [nI_add]
      refine gx_bipush (v := 8) hC dX7_tells_114 bp_8 ?_
      refine gx_isub hC dX7_tells_116 ?_
      rw [show nI (4 + 10) - 8 = nI (10 - 4) by decide]
      refine gx_iald hC dX7_tells_117 (by first | exact gM.at215 | exact gM.at216 | exact gM.at217 | exact gM.at218 | exact gM.at219 | exact gM.at220 | exact gM.at221 | exact gM.at222 | exact gM.at223 | exact gM.at224 | exact gM.at225) (by exact vpn (by omega) (by decide)) (pRn (by omega)) ?_
      exact gx_iret hC hQ dX7_tells_118 (rfl) (rfl) rfl
    | 11, hf =>
      obtain rfl : tg = 107 := by simp at hf; omega
      obtain rfl : w = 11 := by omega
      refine gx_aload_n (i := 0) hC dX7_tells_107 rfl rfl (by first | exact Or.inr ⟨_, rfl⟩ | exact Or.inl rfl | exact kv_isR | exact aref_isR) ?_
      refine gx_getR hC dX7_tells_108 fl_X7_7 (by first | exact gM.at215 | exact gM.at216 | exact gM.at217 | exact gM.at218 | exact gM.at219 | exact gM.at220 | exact gM.at221 | exact gM.at222 | exact gM.at223 | exact gM.at224 | exact gM.at225) rfl (gM.r216) (by decide) ?_
      refine gx_iconst (v := nI 4) hC dX7_tells_111 ic_4n ?_
      refine gx_iload_n (i := 1) hC dX7_tells_112 rfl rfl ?_
      refine gx_iadd hC dX7_tells_113 ?_
      rw [nI_add]
      refine gx_bipush (v := 8) hC dX7_tells_114 bp_8 ?_
      refine gx_isub hC dX7_tells_116 ?_
      rw [show nI (4 + 11) - 8 = nI (11 - 4) by decide]
      refine gx_iald hC dX7_tells_117 (by first | exact gM.at215 | exact gM.at216 | exact gM.at217 | exact gM.at218 | exact gM.at219 | exact gM.at220 | exact gM.at221 | exact gM.at222 | exact gM.at223 | exact gM.at224 | exact gM.at225) (by exact vpn (by omega) (by decide)) (pRn (by omega)) ?_
      exact gx_iret hC hQ dX7_tells_118 (rfl) (rfl) rfl
    | 12, hf =>
      obtain rfl : tg = 119 := by simp at hf; omega
      obtain rfl : w = 12 := by omega
      refine gx_aload_n (i := 0) hC dX7_tells_119 rfl rfl (by first | exact Or.inr ⟨_, rfl⟩ | exact Or.inl rfl | exact kv_isR | exact aref_isR) ?_
      refine gx_getR hC dX7_tells_120 fl_X7_7 (by first | exact gM.at215 | exact gM.at216 | exact gM.at217 | exact gM.at218 | exact gM.at219 | exact gM.at220 | exact gM.at221 | exact gM.at222 | exact gM.at223 | exact gM.at224 | exact gM.at225) rfl (gM.r216) (by decide) ?_
      refine gx_bipush (v := nI 9) hC dX7_tells_123 bp_9n ?_
      refine gx_iload_n (i := 1) hC dX7_tells_125 rfl rfl ?_
      refine gx_iadd hC dX7_tells_126 ?_
      rw [nI_add]
      refine gx_bipush (v := 12) hC dX7_tells_127 bp_12 ?_
      refine gx_isub hC dX7_tells_129 ?_
      rw [show nI (9 + 12) - 12 = nI (12 - 3) by decide]
      refine gx_iald hC dX7_tells_130 (by first | exact gM.at215 | exact gM.at216 | exact gM.at217 | exact gM.at218 | exact gM.at219 | exact gM.at220 | exact gM.at221 | exact gM.at222 | exact gM.at223 | exact gM.at224 | exact gM.at225) (by exact vpn (by omega) (by decide)) (pRn (by omega)) ?_
      exact gx_iret hC hQ dX7_tells_131 (rfl) (rfl) rfl
    | 13, hf =>
      obtain rfl : tg = 119 := by simp at hf; omega
      obtain rfl : w = 13 := by omega
      refine gx_aload_n (i := 0) hC dX7_tells_119 rfl rfl (by first | exact Or.inr ⟨_, rfl⟩ | exact Or.inl rfl | exact kv_isR | exact aref_isR) ?_
      refine gx_getR hC dX7_tells_120 fl_X7_7 (by first | exact gM.at215 | exact gM.at216 | exact gM.at217 | exact gM.at218 | exact gM.at219 | exact gM.at220 | exact gM.at221 | exact gM.at222 | exact gM.at223 | exact gM.at224 | exact gM.at225) rfl (gM.r216) (by decide) ?_
      refine gx_bipush (v := nI 9) hC dX7_tells_123 bp_9n ?_
      refine gx_iload_n (i := 1) hC dX7_tells_125 rfl rfl ?_
      refine gx_iadd hC dX7_tells_126 ?_
      rw [nI_add]
      refine gx_bipush (v := 12) hC dX7_tells_127 bp_12 ?_
      refine gx_isub hC dX7_tells_129 ?_
      rw [show nI (9 + 13) - 12 = nI (13 - 3) by decide]
      refine gx_iald hC dX7_tells_130 (by first | exact gM.at215 | exact gM.at216 | exact gM.at217 | exact gM.at218 | exact gM.at219 | exact gM.at220 | exact gM.at221 | exact gM.at222 | exact gM.at223 | exact gM.at224 | exact gM.at225) (by exact vpn (by omega) (by decide)) (pRn (by omega)) ?_
      exact gx_iret hC hQ dX7_tells_131 (rfl) (rfl) rfl
    | 14, hf =>
      obtain rfl : tg = 119 := by simp at hf; omega
      obtain rfl : w = 14 := by omega
      refine gx_aload_n (i := 0) hC dX7_tells_119 rfl rfl (by first | exact Or.inr ⟨_, rfl⟩ | exact Or.inl rfl | exact kv_isR | exact aref_isR) ?_
      refine gx_getR hC dX7_tells_120 fl_X7_7 (by first | exact gM.at215 | exact gM.at216 | exact gM.at217 | exact gM.at218 | exact gM.at219 | exact gM.at220 | exact gM.at221 | exact gM.at222 | exact gM.at223 | exact gM.at224 | exact gM.at225) rfl (gM.r216) (by decide) ?_
      refine gx_bipush (v := nI 9) hC dX7_tells_123 bp_9n ?_
      refine gx_iload_n (i := 1) hC dX7_tells_125 rfl rfl ?_
      refine gx_iadd hC dX7_tells_126 ?_
      rw [nI_add]
      refine gx_bipush (v := 12) hC dX7_tells_127 bp_12 ?_
      refine gx_isub hC dX7_tells_129 ?_
      rw [show nI (9 + 14) - 12 = nI (14 - 3) by decide]
      refine gx_iald hC dX7_tells_130 (by first | exact gM.at215 | exact gM.at216 | exact gM.at217 | exact gM.at218 | exact gM.at219 | exact gM.at220 | exact gM.at221 | exact gM.at222 | exact gM.at223 | exact gM.at224 | exact gM.at225) (by exact vpn (by omega) (by decide)) (pRn (by omega)) ?_
      exact gx_iret hC hQ dX7_tells_131 (rfl) (rfl) rfl
    | 15, hf =>
      obtain rfl : tg = 119 := by simp at hf; omega
      obtain rfl : w = 15 := by omega
      refine gx_aload_n (i := 0) hC dX7_tells_119 rfl rfl (by first | exact Or.inr ⟨_, rfl⟩ | exact Or.inl rfl | exact kv_isR | exact aref_isR) ?_
      refine gx_getR hC dX7_tells_120 fl_X7_7 (by first | exact gM.at215 | exact gM.at216 | exact gM.at217 | exact gM.at218 | exact gM.at219 | exact gM.at220 | exact gM.at221 | exact gM.at222 | exact gM.at223 | exact gM.at224 | exact gM.at225) rfl (gM.r216) (by decide) ?_
      refine gx_bipush (v := nI 9) hC dX7_tells_123 bp_9n ?_
      refine gx_iload_n (i := 1) hC dX7_tells_125 rfl rfl ?_
      refine gx_iadd hC dX7_tells_126 ?_
      rw [nI_add]
      refine gx_bipush (v := 12) hC dX7_tells_127 bp_12 ?_
      refine gx_isub hC dX7_tells_129 ?_
      rw [show nI (9 + 15) - 12 = nI (15 - 3) by decide]
      refine gx_iald hC dX7_tells_130 (by first | exact gM.at215 | exact gM.at216 | exact gM.at217 | exact gM.at218 | exact gM.at219 | exact gM.at220 | exact gM.at221 | exact gM.at222 | exact gM.at223 | exact gM.at224 | exact gM.at225) (by exact vpn (by omega) (by decide)) (pRn (by omega)) ?_
      exact gx_iret hC hQ dX7_tells_131 (rfl) (rfl) rfl
    | 16, hf =>
      obtain rfl : tg = 119 := by simp at hf; omega
      obtain rfl : w = 16 := by omega
      refine gx_aload_n (i := 0) hC dX7_tells_119 rfl rfl (by first | exact Or.inr ⟨_, rfl⟩ | exact Or.inl rfl | exact kv_isR | exact aref_isR) ?_
      refine gx_getR hC dX7_tells_120 fl_X7_7 (by first | exact gM.at215 | exact gM.at216 | exact gM.at217 | exact gM.at218 | exact gM.at219 | exact gM.at220 | exact gM.at221 | exact gM.at222 | exact gM.at223 | exact gM.at224 | exact gM.at225) rfl (gM.r216) (by decide) ?_
      refine gx_bipush (v := nI 9) hC dX7_tells_123 bp_9n ?_
      refine gx_iload_n (i := 1) hC dX7_tells_125 rfl rfl ?_
      refine gx_iadd hC dX7_tells_126 ?_
      rw [nI_add]
      refine gx_bipush (v := 12) hC dX7_tells_127 bp_12 ?_
      refine gx_isub hC dX7_tells_129 ?_
      rw [show nI (9 + 16) - 12 = nI (16 - 3) by decide]
      refine gx_iald hC dX7_tells_130 (by first | exact gM.at215 | exact gM.at216 | exact gM.at217 | exact gM.at218 | exact gM.at219 | exact gM.at220 | exact gM.at221 | exact gM.at222 | exact gM.at223 | exact gM.at224 | exact gM.at225) (by exact vpn (by omega) (by decide)) (pRn (by omega)) ?_
      exact gx_iret hC hQ dX7_tells_131 (rfl) (rfl) rfl
    | q + 17, hf => simp at hf
set_option maxHeartbeats 4000000 in
set_option maxRecDepth 20000 in
theorem c_X7_tell (l : Launch) (z : hZt) {n : Nat} {M : hMem} {R : hRef} (gM : gMd n R) {v : Nat → Int32} {lv c : Nat} (hW : MW v lv c) {q w : Nat} (hq : M 215 2 = nI q) (hw : w < 18) (hx : bIn (nI w) 0 17 = true) : hCt l z m_X7_tell [.ref (z.1 + 215), .int (nI w)] n (putRow M 216 v) R n (some (.int (mTl v q c w))) (putRow M 216 v) R := by
  refine hs_start [some (.ref (z.1 + 215)), some (.int (nI w))] (by decide +kernel) rfl (by intro u hu; simp at hu; rcases hu with rfl | rfl <;> first | rfl | exact isR_cat kv_isR | exact isR_cat aref_isR) (Nat.le_of_ble_eq_true rfl) (Nat.le_refl _) (fun X hlX hN hC hQ => ?_)
  dsimp only at hC hQ
  refine gx_iload_n (i := 1) hC dX7_tell_0 rfl rfl ?_
  refine gx_iconst (v := 0) hC dX7_tell_1 ic_0 ?_
  refine gx_bipush (v := 17) hC dX7_tell_2 bp_17 ?_
  refine gx_callS1 hC dX7_tell_4 (c_X7_in _ _ _ _ _) kY_X7_in kS_X7_in ml_X7_41 (by decide) rfl rfl rfl (by first | exact Nat.le_of_ble_eq_true rfl | (simp [Value.category, isR_cat kv_isR, isR_cat aref_isR]; done)) (Nat.le_refl _) (Nat.le_refl _) ?_
  refine gx_ifb_eq (tgt := 18) hC dX7_tell_7 (by decide) (fun c_7 => ?_) (fun c_7 => ?_)
  · exact absurd (hx.symm.trans c_7) (by decide)
  · refine gx_aload_n (i := 0) hC dX7_tell_10 rfl rfl (by first | exact Or.inr ⟨_, rfl⟩ | exact Or.inl rfl | exact kv_isR | exact aref_isR) ?_
    refine gx_iload_n (i := 1) hC dX7_tell_11 rfl rfl ?_
    refine gx_callV1 hC dX7_tell_12 (c_X7_tells _ _ gM hW hq hw) kY_X7_tells kV_X7_tells ml_X7_122 (by first | exact gM.at215 | exact gM.at216 | exact gM.at217 | exact gM.at218 | exact gM.at219 | exact gM.at220 | exact gM.at221 | exact gM.at222 | exact gM.at223 | exact gM.at224 | exact gM.at225) rfl (by decide) rfl rfl rfl (by first | exact Nat.le_of_ble_eq_true rfl | (simp [Value.category, isR_cat kv_isR, isR_cat aref_isR]; done)) (Nat.le_refl _) (Nat.le_refl _) ?_
    refine gx_goto (tgt := 19) hC dX7_tell_15 (by decide) ?_
    exact gx_iret hC hQ dX7_tell_19 (rfl) (rfl) rfl
set_option maxHeartbeats 4000000 in
set_option maxRecDepth 20000 in
theorem c0_X7_tell (l : Launch) (z : hZt) {n : Nat} {M : hMem} {R : hRef} (gM : gMd n R) {v : Nat → Int32} {x : Int32} (hx : bIn x 0 17 = false) : hCt l z m_X7_tell [.ref (z.1 + 215), .int x] n (putRow M 216 v) R n (some (.int (-1))) (putRow M 216 v) R := by
  refine hs_start [some (.ref (z.1 + 215)), some (.int x)] (by decide +kernel) rfl (by intro u hu; simp at hu; rcases hu with rfl | rfl <;> first | rfl | exact isR_cat kv_isR | exact isR_cat aref_isR) (Nat.le_of_ble_eq_true rfl) (Nat.le_refl _) (fun X hlX hN hC hQ => ?_)
  dsimp only at hC hQ
  refine gx_iload_n (i := 1) hC dX7_tell_0 rfl rfl ?_
  refine gx_iconst (v := 0) hC dX7_tell_1 ic_0 ?_
  refine gx_bipush (v := 17) hC dX7_tell_2 bp_17 ?_
  refine gx_callS1 hC dX7_tell_4 (c_X7_in _ _ _ _ _) kY_X7_in kS_X7_in ml_X7_41 (by decide) rfl rfl rfl (by first | exact Nat.le_of_ble_eq_true rfl | (simp [Value.category, isR_cat kv_isR, isR_cat aref_isR]; done)) (Nat.le_refl _) (Nat.le_refl _) ?_
  refine gx_ifb_eq (tgt := 18) hC dX7_tell_7 (by decide) (fun c_7 => ?_) (fun c_7 => ?_)
  · refine gx_iconst (v := -1) hC dX7_tell_18 ic_m1 ?_
    exact gx_iret hC hQ dX7_tell_19 (rfl) (rfl) rfl
  · exact absurd (hx.symm.trans c_7) (by decide)
def mWy (v : Nat → Int32) (c j : Nat) : Int32 :=
  if ¬ v (14 + 7 * j + 2) = 0 then 1 else if mOv v j = false then 2 else
  if v (14 + 7 * j + 3) = 0 ∨ mSh v j = true then (if v 5 = 0 ∨ 0 < v 4 then 3 else 0) else
  if ¬ oI (mOn v (v (14 + 7 * j + 3) - 1) c) = -6 then 4 else if v (14 + 7 * j + 5) = 0 ∧ v 6 = 0 then 5 else 0
set_option maxHeartbeats 4000000 in
set_option maxRecDepth 20000 in
theorem c_X7_whyOf (l : Launch) (z : hZt) {n : Nat} {M : hMem} {R : hRef} (gM : gMd n R) {v : Nat → Int32} {lv c : Nat} (hW : MW v lv c) (hR3 : CR M) {j : Nat} (hj : j < c) : hCt l z m_X7_whyOf [.ref (z.1 + 215), .int (nI j)] n (putRow M 216 v) R n (some (.int (mWy v c j))) (putRow M 216 v) R := by
  refine hs_start [some (.ref (z.1 + 215)), some (.int (nI j)), none] (by decide +kernel) rfl (by intro u hu; simp at hu; rcases hu with rfl | rfl <;> first | rfl | exact isR_cat kv_isR | exact isR_cat aref_isR) (Nat.le_of_ble_eq_true rfl) (Nat.le_refl _) (fun X hlX hN hC hQ => ?_)
  dsimp only at hC hQ
  have hc20 := hW.c20
  have hl16 := hW.l16
  refine gx_aload_n (i := 0) hC dX7_whyOf_0 rfl rfl (by first | exact Or.inr ⟨_, rfl⟩ | exact Or.inl rfl | exact kv_isR | exact aref_isR) ?_
  refine gx_getR hC dX7_whyOf_1 fl_X7_7 (by first | exact gM.at215 | exact gM.at216 | exact gM.at217 | exact gM.at218 | exact gM.at219 | exact gM.at220 | exact gM.at221 | exact gM.at222 | exact gM.at223 | exact gM.at224 | exact gM.at225) rfl (gM.r216) (by decide) ?_
  refine gx_iload_n (i := 1) hC dX7_whyOf_4 rfl rfl ?_
  refine gx_callS1 hC dX7_whyOf_5 (c_X7_at _ _ _) kY_X7_at kS_X7_at ml_X7_52 (by decide) rfl rfl rfl (by first | exact Nat.le_of_ble_eq_true rfl | (simp [Value.category, isR_cat kv_isR, isR_cat aref_isR]; done)) (Nat.le_refl _) (Nat.le_refl _) ?_
  refine gx_iconst (v := nI 2) hC dX7_whyOf_8 ic_2n ?_
  refine gx_iadd hC dX7_whyOf_9 ?_
  rw [nI_add]
  refine gx_iald hC dX7_whyOf_10 (by first | exact gM.at215 | exact gM.at216 | exact gM.at217 | exact gM.at218 | exact gM.at219 | exact gM.at220 | exact gM.at221 | exact gM.at222 | exact gM.at223 | exact gM.at224 | exact gM.at225) (by exact vpn (by omega) (by decide)) (pRn (by omega)) ?_
  refine gx_if_eq (tgt := 16) hC dX7_whyOf_11 (by decide) (fun c_11 => ?_) (fun c_11 => ?_)
  · refine gx_aload_n (i := 0) hC dX7_whyOf_16 rfl rfl (by first | exact Or.inr ⟨_, rfl⟩ | exact Or.inl rfl | exact kv_isR | exact aref_isR) ?_
    refine gx_iload_n (i := 1) hC dX7_whyOf_17 rfl rfl ?_
    refine gx_callV1 hC dX7_whyOf_18 (c_X7_isOver _ _ gM hW (by omega)) kY_X7_isOver kV_X7_isOver ml_X7_98 (by first | exact gM.at215 | exact gM.at216 | exact gM.at217 | exact gM.at218 | exact gM.at219 | exact gM.at220 | exact gM.at221 | exact gM.at222 | exact gM.at223 | exact gM.at224 | exact gM.at225) rfl (by decide) rfl rfl rfl (by first | exact Nat.le_of_ble_eq_true rfl | (simp [Value.category, isR_cat kv_isR, isR_cat aref_isR]; done)) (Nat.le_refl _) (Nat.le_refl _) ?_
    refine gx_ifb_ne (tgt := 26) hC dX7_whyOf_21 (by decide) (fun c_21 => ?_) (fun c_21 => ?_)
    · refine gx_aload_n (i := 0) hC dX7_whyOf_26 rfl rfl (by first | exact Or.inr ⟨_, rfl⟩ | exact Or.inl rfl | exact kv_isR | exact aref_isR) ?_
      refine gx_getR hC dX7_whyOf_27 fl_X7_7 (by first | exact gM.at215 | exact gM.at216 | exact gM.at217 | exact gM.at218 | exact gM.at219 | exact gM.at220 | exact gM.at221 | exact gM.at222 | exact gM.at223 | exact gM.at224 | exact gM.at225) rfl (gM.r216) (by decide) ?_
      refine gx_iload_n (i := 1) hC dX7_whyOf_30 rfl rfl ?_
      refine gx_callS1 hC dX7_whyOf_31 (c_X7_at _ _ _) kY_X7_at kS_X7_at ml_X7_52 (by decide) rfl rfl rfl (by first | exact Nat.le_of_ble_eq_true rfl | (simp [Value.category, isR_cat kv_isR, isR_cat aref_isR]; done)) (Nat.le_refl _) (Nat.le_refl _) ?_
      refine gx_iconst (v := nI 3) hC dX7_whyOf_34 ic_3n ?_
      refine gx_iadd hC dX7_whyOf_35 ?_
      rw [nI_add]
      refine gx_iald hC dX7_whyOf_36 (by first | exact gM.at215 | exact gM.at216 | exact gM.at217 | exact gM.at218 | exact gM.at219 | exact gM.at220 | exact gM.at221 | exact gM.at222 | exact gM.at223 | exact gM.at224 | exact gM.at225) (by exact vpn (by omega) (by decide)) (pRn (by omega)) ?_
      refine gx_istore_n (i := 2) (L' := [_, _, _]) hC dX7_whyOf_37 rfl (Nat.le_of_ble_eq_true rfl) rfl (fun u h9 => by first | exact Or.inl rfl | (cases h9; done) | (right; cases h9; first | rfl | exact isR_cat aref_isR | exact isR_cat kv_isR)) ?_
      refine gx_iload_n (i := 2) hC dX7_whyOf_38 rfl rfl ?_
      refine gx_if_eq (tgt := 50) hC dX7_whyOf_39 (by decide) (fun c_39 => ?_) (fun c_39 => ?_)
      · refine gx_aload_n (i := 0) hC dX7_whyOf_50 rfl rfl (by first | exact Or.inr ⟨_, rfl⟩ | exact Or.inl rfl | exact kv_isR | exact aref_isR) ?_
        refine gx_getR hC dX7_whyOf_51 fl_X7_7 (by first | exact gM.at215 | exact gM.at216 | exact gM.at217 | exact gM.at218 | exact gM.at219 | exact gM.at220 | exact gM.at221 | exact gM.at222 | exact gM.at223 | exact gM.at224 | exact gM.at225) rfl (gM.r216) (by decide) ?_
        refine gx_iconst (v := nI 5) hC dX7_whyOf_54 ic_5n ?_
        refine gx_iald hC dX7_whyOf_55 (by first | exact gM.at215 | exact gM.at216 | exact gM.at217 | exact gM.at218 | exact gM.at219 | exact gM.at220 | exact gM.at221 | exact gM.at222 | exact gM.at223 | exact gM.at224 | exact gM.at225) (by exact vpn (by omega) (by decide)) (pRn (by omega)) ?_
        refine gx_if_eq (tgt := 68) hC dX7_whyOf_56 (by decide) (fun c_56 => ?_) (fun c_56 => ?_)
        · refine gx_iconst (v := 3) hC dX7_whyOf_68 ic_3 ?_
          refine gx_goto (tgt := 73) hC dX7_whyOf_69 (by decide) ?_
          exact gx_iret hC hQ dX7_whyOf_73 ((by rw [mWy, if_neg (fun q => q c_11), if_neg (by rw [c_21]; decide), if_pos (Or.inl c_39), if_pos (Or.inl c_56)])) (rfl) rfl
        · refine gx_aload_n (i := 0) hC dX7_whyOf_59 rfl rfl (by first | exact Or.inr ⟨_, rfl⟩ | exact Or.inl rfl | exact kv_isR | exact aref_isR) ?_
          refine gx_getR hC dX7_whyOf_60 fl_X7_7 (by first | exact gM.at215 | exact gM.at216 | exact gM.at217 | exact gM.at218 | exact gM.at219 | exact gM.at220 | exact gM.at221 | exact gM.at222 | exact gM.at223 | exact gM.at224 | exact gM.at225) rfl (gM.r216) (by decide) ?_
          refine gx_iconst (v := nI 4) hC dX7_whyOf_63 ic_4n ?_
          refine gx_iald hC dX7_whyOf_64 (by first | exact gM.at215 | exact gM.at216 | exact gM.at217 | exact gM.at218 | exact gM.at219 | exact gM.at220 | exact gM.at221 | exact gM.at222 | exact gM.at223 | exact gM.at224 | exact gM.at225) (by exact vpn (by omega) (by decide)) (pRn (by omega)) ?_
          refine gx_if_le (tgt := 72) hC dX7_whyOf_65 (by decide) (fun c_65 => ?_) (fun c_65 => ?_)
          · refine gx_iconst (v := 0) hC dX7_whyOf_72 ic_0 ?_
            exact gx_iret hC hQ dX7_whyOf_73 ((by rw [mWy, if_neg (fun q => q c_11), if_neg (by rw [c_21]; decide), if_pos (Or.inl c_39), if_neg (fun q => q.elim c_56 (fun q => Int32.not_le.mpr q c_65))])) (rfl) rfl
          · refine gx_iconst (v := 3) hC dX7_whyOf_68 ic_3 ?_
            refine gx_goto (tgt := 73) hC dX7_whyOf_69 (by decide) ?_
            exact gx_iret hC hQ dX7_whyOf_73 ((by rw [mWy, if_neg (fun q => q c_11), if_neg (by rw [c_21]; decide), if_pos (Or.inl c_39), if_pos (Or.inr (Int32.not_le.mp c_65))])) (rfl) rfl
      · refine gx_aload_n (i := 0) hC dX7_whyOf_42 rfl rfl (by first | exact Or.inr ⟨_, rfl⟩ | exact Or.inl rfl | exact kv_isR | exact aref_isR) ?_
        refine gx_iload_n (i := 1) hC dX7_whyOf_43 rfl rfl ?_
        refine gx_callV1 hC dX7_whyOf_44 (c_X7_isShort _ _ gM hW hR3 (by omega)) kY_X7_isShort kV_X7_isShort ml_X7_101 (by first | exact gM.at215 | exact gM.at216 | exact gM.at217 | exact gM.at218 | exact gM.at219 | exact gM.at220 | exact gM.at221 | exact gM.at222 | exact gM.at223 | exact gM.at224 | exact gM.at225) rfl (by decide) rfl rfl rfl (by first | exact Nat.le_of_ble_eq_true rfl | (simp [Value.category, isR_cat kv_isR, isR_cat aref_isR]; done)) (Nat.le_refl _) (Nat.le_refl _) ?_
        refine gx_ifb_eq (tgt := 74) hC dX7_whyOf_47 (by decide) (fun c_47 => ?_) (fun c_47 => ?_)
        · refine gx_aload_n (i := 0) hC dX7_whyOf_74 rfl rfl (by first | exact Or.inr ⟨_, rfl⟩ | exact Or.inl rfl | exact kv_isR | exact aref_isR) ?_
          refine gx_iload_n (i := 2) hC dX7_whyOf_75 rfl rfl ?_
          refine gx_iconst (v := 1) hC dX7_whyOf_76 ic_1 ?_
          refine gx_isub hC dX7_whyOf_77 ?_
          refine gx_callV1 hC dX7_whyOf_78 (c_X7_on _ _ gM hW _) kY_X7_on kV_X7_on ml_X7_68 (by first | exact gM.at215 | exact gM.at216 | exact gM.at217 | exact gM.at218 | exact gM.at219 | exact gM.at220 | exact gM.at221 | exact gM.at222 | exact gM.at223 | exact gM.at224 | exact gM.at225) rfl (by decide) rfl rfl rfl (by first | exact Nat.le_of_ble_eq_true rfl | (simp [Value.category, isR_cat kv_isR, isR_cat aref_isR]; done)) (Nat.le_refl _) (Nat.le_refl _) ?_
          refine gx_bipush (v := -6) hC dX7_whyOf_81 bp_m6 ?_
          refine gx_icmp_eq (tgt := 90) hC dX7_whyOf_83 (by decide) (fun c_83 => ?_) (fun c_83 => ?_)
          · refine gx_aload_n (i := 0) hC dX7_whyOf_90 rfl rfl (by first | exact Or.inr ⟨_, rfl⟩ | exact Or.inl rfl | exact kv_isR | exact aref_isR) ?_
            refine gx_getR hC dX7_whyOf_91 fl_X7_7 (by first | exact gM.at215 | exact gM.at216 | exact gM.at217 | exact gM.at218 | exact gM.at219 | exact gM.at220 | exact gM.at221 | exact gM.at222 | exact gM.at223 | exact gM.at224 | exact gM.at225) rfl (gM.r216) (by decide) ?_
            refine gx_iload_n (i := 1) hC dX7_whyOf_94 rfl rfl ?_
            refine gx_callS1 hC dX7_whyOf_95 (c_X7_at _ _ _) kY_X7_at kS_X7_at ml_X7_52 (by decide) rfl rfl rfl (by first | exact Nat.le_of_ble_eq_true rfl | (simp [Value.category, isR_cat kv_isR, isR_cat aref_isR]; done)) (Nat.le_refl _) (Nat.le_refl _) ?_
            refine gx_iconst (v := nI 5) hC dX7_whyOf_98 ic_5n ?_
            refine gx_iadd hC dX7_whyOf_99 ?_
            rw [nI_add]
            refine gx_iald hC dX7_whyOf_100 (by first | exact gM.at215 | exact gM.at216 | exact gM.at217 | exact gM.at218 | exact gM.at219 | exact gM.at220 | exact gM.at221 | exact gM.at222 | exact gM.at223 | exact gM.at224 | exact gM.at225) (by exact vpn (by omega) (by decide)) (pRn (by omega)) ?_
            refine gx_if_ne (tgt := 118) hC dX7_whyOf_101 (by decide) (fun c_101 => ?_) (fun c_101 => ?_)
            · refine gx_iconst (v := 0) hC dX7_whyOf_118 ic_0 ?_
              exact gx_iret hC hQ dX7_whyOf_119 ((by rw [mWy, if_neg (fun q => q c_11), if_neg (by rw [c_21]; decide), if_neg (fun q => q.elim c_39 (fun q => by rw [q] at c_47; cases c_47)), if_neg (fun q => q c_83), if_neg (fun q => c_101 q.1)])) (rfl) rfl
            · refine gx_aload_n (i := 0) hC dX7_whyOf_104 rfl rfl (by first | exact Or.inr ⟨_, rfl⟩ | exact Or.inl rfl | exact kv_isR | exact aref_isR) ?_
              refine gx_getR hC dX7_whyOf_105 fl_X7_7 (by first | exact gM.at215 | exact gM.at216 | exact gM.at217 | exact gM.at218 | exact gM.at219 | exact gM.at220 | exact gM.at221 | exact gM.at222 | exact gM.at223 | exact gM.at224 | exact gM.at225) rfl (gM.r216) (by decide) ?_
              refine gx_bipush (v := nI 6) hC dX7_whyOf_108 bp_6n ?_
              refine gx_iald hC dX7_whyOf_110 (by first | exact gM.at215 | exact gM.at216 | exact gM.at217 | exact gM.at218 | exact gM.at219 | exact gM.at220 | exact gM.at221 | exact gM.at222 | exact gM.at223 | exact gM.at224 | exact gM.at225) (by exact vpn (by omega) (by decide)) (pRn (by omega)) ?_
              refine gx_if_ne (tgt := 118) hC dX7_whyOf_111 (by decide) (fun c_111 => ?_) (fun c_111 => ?_)
              · refine gx_iconst (v := 0) hC dX7_whyOf_118 ic_0 ?_
                exact gx_iret hC hQ dX7_whyOf_119 ((by rw [mWy, if_neg (fun q => q c_11), if_neg (by rw [c_21]; decide), if_neg (fun q => q.elim c_39 (fun q => by rw [q] at c_47; cases c_47)), if_neg (fun q => q c_83), if_neg (fun q => c_111 q.2)])) (rfl) rfl
              · refine gx_iconst (v := 5) hC dX7_whyOf_114 ic_5 ?_
                refine gx_goto (tgt := 119) hC dX7_whyOf_115 (by decide) ?_
                exact gx_iret hC hQ dX7_whyOf_119 ((by rw [mWy, if_neg (fun q => q c_11), if_neg (by rw [c_21]; decide), if_neg (fun q => q.elim c_39 (fun q => by rw [q] at c_47; cases c_47)), if_neg (fun q => q c_83), if_pos ⟨c_101, c_111⟩])) (rfl) rfl
          · refine gx_iconst (v := 4) hC dX7_whyOf_86 ic_4 ?_
            refine gx_goto (tgt := 119) hC dX7_whyOf_87 (by decide) ?_
            exact gx_iret hC hQ dX7_whyOf_119 ((by rw [mWy, if_neg (fun q => q c_11), if_neg (by rw [c_21]; decide), if_neg (fun q => q.elim c_39 (fun q => by rw [q] at c_47; cases c_47)), if_pos c_83])) (rfl) rfl
        · refine gx_aload_n (i := 0) hC dX7_whyOf_50 rfl rfl (by first | exact Or.inr ⟨_, rfl⟩ | exact Or.inl rfl | exact kv_isR | exact aref_isR) ?_
          refine gx_getR hC dX7_whyOf_51 fl_X7_7 (by first | exact gM.at215 | exact gM.at216 | exact gM.at217 | exact gM.at218 | exact gM.at219 | exact gM.at220 | exact gM.at221 | exact gM.at222 | exact gM.at223 | exact gM.at224 | exact gM.at225) rfl (gM.r216) (by decide) ?_
          refine gx_iconst (v := nI 5) hC dX7_whyOf_54 ic_5n ?_
          refine gx_iald hC dX7_whyOf_55 (by first | exact gM.at215 | exact gM.at216 | exact gM.at217 | exact gM.at218 | exact gM.at219 | exact gM.at220 | exact gM.at221 | exact gM.at222 | exact gM.at223 | exact gM.at224 | exact gM.at225) (by exact vpn (by omega) (by decide)) (pRn (by omega)) ?_
          refine gx_if_eq (tgt := 68) hC dX7_whyOf_56 (by decide) (fun c_56 => ?_) (fun c_56 => ?_)
          · refine gx_iconst (v := 3) hC dX7_whyOf_68 ic_3 ?_
            refine gx_goto (tgt := 73) hC dX7_whyOf_69 (by decide) ?_
            exact gx_iret hC hQ dX7_whyOf_73 ((by rw [mWy, if_neg (fun q => q c_11), if_neg (by rw [c_21]; decide), if_pos (Or.inr c_47), if_pos (Or.inl c_56)])) (rfl) rfl
          · refine gx_aload_n (i := 0) hC dX7_whyOf_59 rfl rfl (by first | exact Or.inr ⟨_, rfl⟩ | exact Or.inl rfl | exact kv_isR | exact aref_isR) ?_
            refine gx_getR hC dX7_whyOf_60 fl_X7_7 (by first | exact gM.at215 | exact gM.at216 | exact gM.at217 | exact gM.at218 | exact gM.at219 | exact gM.at220 | exact gM.at221 | exact gM.at222 | exact gM.at223 | exact gM.at224 | exact gM.at225) rfl (gM.r216) (by decide) ?_
            refine gx_iconst (v := nI 4) hC dX7_whyOf_63 ic_4n ?_
            refine gx_iald hC dX7_whyOf_64 (by first | exact gM.at215 | exact gM.at216 | exact gM.at217 | exact gM.at218 | exact gM.at219 | exact gM.at220 | exact gM.at221 | exact gM.at222 | exact gM.at223 | exact gM.at224 | exact gM.at225) (by exact vpn (by omega) (by decide)) (pRn (by omega)) ?_
            refine gx_if_le (tgt := 72) hC dX7_whyOf_65 (by decide) (fun c_65 => ?_) (fun c_65 => ?_)
            · refine gx_iconst (v := 0) hC dX7_whyOf_72 ic_0 ?_
              exact gx_iret hC hQ dX7_whyOf_73 ((by rw [mWy, if_neg (fun q => q c_11), if_neg (by rw [c_21]; decide), if_pos (Or.inr c_47), if_neg (fun q => q.elim c_56 (fun q => Int32.not_le.mpr q c_65))])) (rfl) rfl
            · refine gx_iconst (v := 3) hC dX7_whyOf_68 ic_3 ?_
              refine gx_goto (tgt := 73) hC dX7_whyOf_69 (by decide) ?_
              exact gx_iret hC hQ dX7_whyOf_73 ((by rw [mWy, if_neg (fun q => q c_11), if_neg (by rw [c_21]; decide), if_pos (Or.inr c_47), if_pos (Or.inr (Int32.not_le.mp c_65))])) (rfl) rfl
    · refine gx_iconst (v := 2) hC dX7_whyOf_24 ic_2 ?_
      exact gx_iret hC hQ dX7_whyOf_25 ((by rw [mWy, if_neg (fun q => q c_11), if_pos c_21])) (rfl) rfl
  · refine gx_iconst (v := 1) hC dX7_whyOf_14 ic_1 ?_
    exact gx_iret hC hQ dX7_whyOf_15 ((by rw [mWy, if_pos c_11])) (rfl) rfl
set_option maxHeartbeats 4000000 in
set_option maxRecDepth 20000 in
theorem c_X7_why (l : Launch) (z : hZt) {n : Nat} {M : hMem} {R : hRef} (gM : gMd n R) {v : Nat → Int32} {lv c : Nat} (hW : MW v lv c) (hR3 : CR M) {j : Nat} (hj : j < c) : hCt l z m_X7_why [.ref (z.1 + 215), .int (nI j)] n (putRow M 216 v) R n (some (.int (mWy v c j))) (putRow M 216 v) R := by
  refine hs_start [some (.ref (z.1 + 215)), some (.int (nI j))] (by decide +kernel) rfl (by intro u hu; simp at hu; rcases hu with rfl | rfl <;> first | rfl | exact isR_cat kv_isR | exact isR_cat aref_isR) (Nat.le_of_ble_eq_true rfl) (Nat.le_refl _) (fun X hlX hN hC hQ => ?_)
  dsimp only at hC hQ
  have hc20 := hW.c20
  have hl16 := hW.l16
  refine gx_aload_n (i := 0) hC dX7_why_0 rfl rfl (by first | exact Or.inr ⟨_, rfl⟩ | exact Or.inl rfl | exact kv_isR | exact aref_isR) ?_
  refine gx_iload_n (i := 1) hC dX7_why_1 rfl rfl ?_
  refine gx_callV1 hC dX7_why_2 (c_X7_isCraft _ _ gM _) kY_X7_isCraft kV_X7_isCraft ml_X7_85 (by first | exact gM.at215 | exact gM.at216 | exact gM.at217 | exact gM.at218 | exact gM.at219 | exact gM.at220 | exact gM.at221 | exact gM.at222 | exact gM.at223 | exact gM.at224 | exact gM.at225) rfl (by decide) rfl rfl rfl (by first | exact Nat.le_of_ble_eq_true rfl | (simp [Value.category, isR_cat kv_isR, isR_cat aref_isR]; done)) (Nat.le_refl _) (Nat.le_refl _) ?_
  refine gx_ifb_eq (tgt := 16) hC dX7_why_5 (by decide) (fun c_5 => ?_) (fun c_5 => ?_)
  · exact absurd ((mCr_n hW hj).symm.trans c_5) (by decide)
  · refine gx_aload_n (i := 0) hC dX7_why_8 rfl rfl (by first | exact Or.inr ⟨_, rfl⟩ | exact Or.inl rfl | exact kv_isR | exact aref_isR) ?_
    refine gx_iload_n (i := 1) hC dX7_why_9 rfl rfl ?_
    refine gx_callV1 hC dX7_why_10 (c_X7_whyOf _ _ gM hW hR3 hj) kY_X7_whyOf kV_X7_whyOf ml_X7_125 (by first | exact gM.at215 | exact gM.at216 | exact gM.at217 | exact gM.at218 | exact gM.at219 | exact gM.at220 | exact gM.at221 | exact gM.at222 | exact gM.at223 | exact gM.at224 | exact gM.at225) rfl (by decide) rfl rfl rfl (by first | exact Nat.le_of_ble_eq_true rfl | (simp [Value.category, isR_cat kv_isR, isR_cat aref_isR]; done)) (Nat.le_refl _) (Nat.le_refl _) ?_
    refine gx_goto (tgt := 17) hC dX7_why_13 (by decide) ?_
    exact gx_iret hC hQ dX7_why_17 (rfl) (rfl) rfl
set_option maxHeartbeats 4000000 in
set_option maxRecDepth 20000 in
theorem c0_X7_why (l : Launch) (z : hZt) {n : Nat} {M : hMem} {R : hRef} (gM : gMd n R) {v : Nat → Int32} {x : Int32} (hx : mCr v x = false) : hCt l z m_X7_why [.ref (z.1 + 215), .int x] n (putRow M 216 v) R n (some (.int (-1))) (putRow M 216 v) R := by
  refine hs_start [some (.ref (z.1 + 215)), some (.int x)] (by decide +kernel) rfl (by intro u hu; simp at hu; rcases hu with rfl | rfl <;> first | rfl | exact isR_cat kv_isR | exact isR_cat aref_isR) (Nat.le_of_ble_eq_true rfl) (Nat.le_refl _) (fun X hlX hN hC hQ => ?_)
  dsimp only at hC hQ
  refine gx_aload_n (i := 0) hC dX7_why_0 rfl rfl (by first | exact Or.inr ⟨_, rfl⟩ | exact Or.inl rfl | exact kv_isR | exact aref_isR) ?_
  refine gx_iload_n (i := 1) hC dX7_why_1 rfl rfl ?_
  refine gx_callV1 hC dX7_why_2 (c_X7_isCraft _ _ gM _) kY_X7_isCraft kV_X7_isCraft ml_X7_85 (by first | exact gM.at215 | exact gM.at216 | exact gM.at217 | exact gM.at218 | exact gM.at219 | exact gM.at220 | exact gM.at221 | exact gM.at222 | exact gM.at223 | exact gM.at224 | exact gM.at225) rfl (by decide) rfl rfl rfl (by first | exact Nat.le_of_ble_eq_true rfl | (simp [Value.category, isR_cat kv_isR, isR_cat aref_isR]; done)) (Nat.le_refl _) (Nat.le_refl _) ?_
  refine gx_ifb_eq (tgt := 16) hC dX7_why_5 (by decide) (fun c_5 => ?_) (fun c_5 => ?_)
  · refine gx_iconst (v := -1) hC dX7_why_16 ic_m1 ?_
    exact gx_iret hC hQ dX7_why_17 (rfl) (rfl) rfl
  · exact absurd (hx.symm.trans c_5) (by decide)
