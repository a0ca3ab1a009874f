/-! the model: begin, lap, limit, switches, minutes -/
def zro (f : Nat → Int32) (k : Nat) : Nat → Int32 := fun j => if 8 ≤ j ∧ j < k then 0 else f j
theorem zro_0 {f : Nat → Int32} : zro f 8 = f := by funext j; unfold zro; rw [if_neg (by omega)]
theorem zro_s {f : Nat → Int32} {k : Nat} (h : 8 ≤ k) : upd (zro f k) k 0 = zro f (k + 1) := by
  funext j
  unfold upd zro
  by_cases h1 : j = k
  · subst h1; rw [if_pos rfl, if_pos (by omega)]
  · rw [if_neg h1]
    by_cases h2 : 8 ≤ j ∧ j < k
    · rw [if_pos h2, if_pos (by omega)]
    · rw [if_neg h2, if_neg (by omega)]
def mBg (v : Nat → Int32) (x : Int32) : Nat → Int32 := upd (zro (upd (upd (upd v 0 0) 3 0) 4 0) 154) 1 x
set_option maxHeartbeats 4000000 in
set_option maxRecDepth 20000 in
theorem c0_X7_begin (l : Launch) (z : hZt) {n : Nat} {M : hMem} {R : hRef} (gM : gMd n R) {v : Nat → Int32} {x : Int32} (hx : bIn x 4 16 = false) : hCt l z m_X7_begin [.ref (z.1 + 215), .int x] n (putRow M 216 v) R n (some (.int (-2))) (putRow M 216 v) R := by
  refine hs_start [some (.ref (z.1 + 215)), some (.int x), none, none] (by decide +kernel) rfl (by intro u hu; simp at hu; rcases hu with rfl | rfl <;> first | rfl | exact isR_cat kv_isR | exact isR_cat aref_isR) (Nat.le_of_ble_eq_true rfl) (Nat.le_refl _) (fun X hlX hN hC hQ => ?_)
  dsimp only at hC hQ
  refine gx_iload_n (i := 1) hC dX7_begin_0 rfl rfl ?_
  refine gx_iconst (v := 4) hC dX7_begin_1 ic_4 ?_
  refine gx_bipush (v := 16) hC dX7_begin_2 bp_16 ?_
  refine gx_callS1 hC dX7_begin_4 (c_X7_in _ _ _ _ _) kY_X7_in kS_X7_in ml_X7_41 (by decide) rfl rfl rfl (by first | exact Nat.le_of_ble_eq_true rfl | (simp [Value.category, isR_cat kv_isR, isR_cat aref_isR]; done)) (Nat.le_refl _) (Nat.le_refl _) ?_
  refine gx_ifb_ne (tgt := 13) hC dX7_begin_7 (by decide) (fun c_7 => ?_) (fun c_7 => ?_)
  · exact absurd (hx.symm.trans c_7) (by decide)
  · refine gx_bipush (v := -2) hC dX7_begin_10 bp_m2 ?_
    exact gx_iret hC hQ dX7_begin_12 (rfl) (rfl) rfl
set_option maxHeartbeats 4000000 in
set_option maxRecDepth 20000 in
theorem c_X7_begin (l : Launch) (z : hZt) {n : Nat} {M : hMem} {R : hRef} (gM : gMd n R) {v : Nat → Int32} {q : Nat} (hq5 : q ≤ 5) (hq : M 215 2 = nI q) {x : Int32} (hx : bIn x 4 16 = true) : hCt l z m_X7_begin [.ref (z.1 + 215), .int x] n (putRow M 216 v) R n (some (.int (v 1))) (putRow (mRc M v q) 216 (mBg v x)) R := by
  refine hs_start [some (.ref (z.1 + 215)), some (.int x), none, none] (by decide +kernel) rfl (by intro u hu; simp at hu; rcases hu with rfl | rfl <;> first | rfl | exact isR_cat kv_isR | exact isR_cat aref_isR) (Nat.le_of_ble_eq_true rfl) (Nat.le_refl _) (fun X hlX hN hC hQ => ?_)
  dsimp only at hC hQ
  refine gx_iload_n (i := 1) hC dX7_begin_0 rfl rfl ?_
  refine gx_iconst (v := 4) hC dX7_begin_1 ic_4 ?_
  refine gx_bipush (v := 16) hC dX7_begin_2 bp_16 ?_
  refine gx_callS1 hC dX7_begin_4 (c_X7_in _ _ _ _ _) kY_X7_in kS_X7_in ml_X7_41 (by decide) rfl rfl rfl (by first | exact Nat.le_of_ble_eq_true rfl | (simp [Value.category, isR_cat kv_isR, isR_cat aref_isR]; done)) (Nat.le_refl _) (Nat.le_refl _) ?_
  refine gx_ifb_ne (tgt := 13) hC dX7_begin_7 (by decide) (fun c_7 => ?_) (fun c_7 => ?_)
  · refine gx_aload_n (i := 0) hC dX7_begin_13 rfl rfl (by first | exact Or.inr ⟨_, rfl⟩ | exact Or.inl rfl | exact kv_isR | exact aref_isR) ?_
    refine gx_callV0 hC dX7_begin_14 (c_X7_records _ _ gM hq5 hq) kY_X7_records kV_X7_records ml_X7_49 (by first | exact gM.at215 | exact gM.at216 | exact gM.at217 | exact gM.at218 | exact gM.at219 | exact gM.at220 | exact gM.at221 | exact gM.at222 | exact gM.at223 | exact gM.at224 | exact gM.at225) rfl (by decide) rfl rfl rfl (by first | exact Nat.le_of_ble_eq_true rfl | (simp [Value.category, isR_cat kv_isR, isR_cat aref_isR]; done)) (Nat.le_refl _) (Nat.le_refl _) ?_
    refine gx_aload_n (i := 0) hC dX7_begin_17 rfl rfl (by first | exact Or.inr ⟨_, rfl⟩ | exact Or.inl rfl | exact kv_isR | exact aref_isR) ?_
    refine gx_getR hC dX7_begin_18 fl_X7_7 (by first | exact gM.at215 | exact gM.at216 | exact gM.at217 | exact gM.at218 | exact gM.at219 | exact gM.at220 | exact gM.at221 | exact gM.at222 | exact gM.at223 | exact gM.at224 | exact gM.at225) rfl (gM.r216) (by decide) ?_
    refine gx_iconst (v := nI 1) hC dX7_begin_21 ic_1n ?_
    refine gx_iald hC dX7_begin_22 (by first | exact gM.at215 | exact gM.at216 | exact gM.at217 | exact gM.at218 | exact gM.at219 | exact gM.at220 | exact gM.at221 | exact gM.at222 | exact gM.at223 | exact gM.at224 | exact gM.at225) (by exact vpn (by omega) (by decide)) (pRn (by omega)) ?_
    refine gx_istore_n (i := 2) (L' := [_, _, _, _]) hC dX7_begin_23 rfl (Nat.le_of_ble_eq_true rfl) rfl (fun u h9 => by first | exact Or.inl rfl | (cases h9; done) | (right; cases h9; first | rfl | exact isR_cat aref_isR | exact isR_cat kv_isR)) ?_
    refine gx_aload_n (i := 0) hC dX7_begin_24 rfl rfl (by first | exact Or.inr ⟨_, rfl⟩ | exact Or.inl rfl | exact kv_isR | exact aref_isR) ?_
    refine gx_getR hC dX7_begin_25 fl_X7_7 (by first | exact gM.at215 | exact gM.at216 | exact gM.at217 | exact gM.at218 | exact gM.at219 | exact gM.at220 | exact gM.at221 | exact gM.at222 | exact gM.at223 | exact gM.at224 | exact gM.at225) rfl (gM.r216) (by decide) ?_
    refine gx_iconst (v := nI 0) hC dX7_begin_28 ic_0n ?_
    refine gx_iconst (v := 0) hC dX7_begin_29 ic_0 ?_
    refine gx_iastM hC dX7_begin_30 (by first | exact gM.at215 | exact gM.at216 | exact gM.at217 | exact gM.at218 | exact gM.at219 | exact gM.at220 | exact gM.at221 | exact gM.at222 | exact gM.at223 | exact gM.at224 | exact gM.at225) (by exact vpn (by omega) (by decide)) (up_Rn (by omega)) ?_
    refine gx_aload_n (i := 0) hC dX7_begin_31 rfl rfl (by first | exact Or.inr ⟨_, rfl⟩ | exact Or.inl rfl | exact kv_isR | exact aref_isR) ?_
    refine gx_getR hC dX7_begin_32 fl_X7_7 (by first | exact gM.at215 | exact gM.at216 | exact gM.at217 | exact gM.at218 | exact gM.at219 | exact gM.at220 | exact gM.at221 | exact gM.at222 | exact gM.at223 | exact gM.at224 | exact gM.at225) rfl (gM.r216) (by decide) ?_
    refine gx_iconst (v := nI 3) hC dX7_begin_35 ic_3n ?_
    refine gx_iconst (v := 0) hC dX7_begin_36 ic_0 ?_
    refine gx_iastM hC dX7_begin_37 (by first | exact gM.at215 | exact gM.at216 | exact gM.at217 | exact gM.at218 | exact gM.at219 | exact gM.at220 | exact gM.at221 | exact gM.at222 | exact gM.at223 | exact gM.at224 | exact gM.at225) (by exact vpn (by omega) (by decide)) (up_Rn (by omega)) ?_
    refine gx_aload_n (i := 0) hC dX7_begin_38 rfl rfl (by first | exact Or.inr ⟨_, rfl⟩ | exact Or.inl rfl | exact kv_isR | exact aref_isR) ?_
    refine gx_getR hC dX7_begin_39 fl_X7_7 (by first | exact gM.at215 | exact gM.at216 | exact gM.at217 | exact gM.at218 | exact gM.at219 | exact gM.at220 | exact gM.at221 | exact gM.at222 | exact gM.at223 | exact gM.at224 | exact gM.at225) rfl (gM.r216) (by decide) ?_
    refine gx_iconst (v := nI 4) hC dX7_begin_42 ic_4n ?_
    refine gx_iconst (v := 0) hC dX7_begin_43 ic_0 ?_
    refine gx_iastM hC dX7_begin_44 (by first | exact gM.at215 | exact gM.at216 | exact gM.at217 | exact gM.at218 | exact gM.at219 | exact gM.at220 | exact gM.at221 | exact gM.at222 | exact gM.at223 | exact gM.at224 | exact gM.at225) (by exact vpn (by omega) (by decide)) (up_Rn (by omega)) ?_
    refine gx_bipush (v := nI 8) hC dX7_begin_45 bp_8n ?_
    refine gx_istore_n (i := 3) (L' := [_, _, _, _]) hC dX7_begin_47 rfl (Nat.le_of_ble_eq_true rfl) rfl (fun u h9 => by first | exact Or.inl rfl | (cases h9; done) | (right; cases h9; first | rfl | exact isR_cat aref_isR | exact isR_cat kv_isR)) ?_
    have loop_48 : ∀ (k : Nat) (a : Nat), 154 - a < k → 8 ≤ a → a ≤ 154 → hG z n X n (putRow (mRc M v q) 216 (zro (upd (upd (upd v 0 0) 3 0) 4 0) a)) R 48 [some (.ref (z.1 + 215)), some (.int x), some (.int (v 1)), some (.int (nI a))] [] := by
      intro k
      induction k with
      | zero => intros; omega
      | succ k ih =>
        intro a hk1 ha hb
        refine gx_iload_n (i := 3) hC dX7_begin_48 rfl rfl ?_
        refine gx_sipush (v := nI 154) hC dX7_begin_49 sp_154n ?_
        refine gx_icmp_ge (tgt := 68) hC dX7_begin_52 (by decide) (fun c_52 => ?_) (fun c_52 => ?_)
        · have d_52 := cle (by omega) (by omega) c_52
          refine gx_aload_n (i := 0) hC dX7_begin_68 rfl rfl (by first | exact Or.inr ⟨_, rfl⟩ | exact Or.inl rfl | exact kv_isR | exact aref_isR) ?_
          refine gx_getR hC dX7_begin_69 fl_X7_7 (by first | exact gM.at215 | exact gM.at216 | exact gM.at217 | exact gM.at218 | exact gM.at219 | exact gM.at220 | exact gM.at221 | exact gM.at222 | exact gM.at223 | exact gM.at224 | exact gM.at225) rfl (gM.r216) (by decide) ?_
          refine gx_iconst (v := nI 1) hC dX7_begin_72 ic_1n ?_
          refine gx_iload_n (i := 1) hC dX7_begin_73 rfl rfl ?_
          refine gx_iastM hC dX7_begin_74 (by first | exact gM.at215 | exact gM.at216 | exact gM.at217 | exact gM.at218 | exact gM.at219 | exact gM.at220 | exact gM.at221 | exact gM.at222 | exact gM.at223 | exact gM.at224 | exact gM.at225) (by exact vpn (by omega) (by decide)) (up_Rn (by omega)) ?_
          refine gx_iload_n (i := 2) hC dX7_begin_75 rfl rfl ?_
          exact gx_iret hC hQ dX7_begin_76 (rfl) ((by obtain rfl : a = 154 := (by omega); rfl)) rfl
        · have d_52 := cnle (by omega) (by omega) c_52
          refine gx_aload_n (i := 0) hC dX7_begin_55 rfl rfl (by first | exact Or.inr ⟨_, rfl⟩ | exact Or.inl rfl | exact kv_isR | exact aref_isR) ?_
          refine gx_getR hC dX7_begin_56 fl_X7_7 (by first | exact gM.at215 | exact gM.at216 | exact gM.at217 | exact gM.at218 | exact gM.at219 | exact gM.at220 | exact gM.at221 | exact gM.at222 | exact gM.at223 | exact gM.at224 | exact gM.at225) rfl (gM.r216) (by decide) ?_
          refine gx_iload_n (i := 3) hC dX7_begin_59 rfl rfl ?_
          refine gx_iconst (v := 0) hC dX7_begin_60 ic_0 ?_
          refine gx_iastM hC dX7_begin_61 (by first | exact gM.at215 | exact gM.at216 | exact gM.at217 | exact gM.at218 | exact gM.at219 | exact gM.at220 | exact gM.at221 | exact gM.at222 | exact gM.at223 | exact gM.at224 | exact gM.at225) (by exact vpn (by omega) (by decide)) ((up_Rn (by omega)).trans (congrArg (fun t => putRow (mRc M v q) 216 t) (zro_s ha))) ?_
          refine gx_iinc (i := 3) (L' := [_, _, _, _]) hC dX7_begin_62 rfl (ii_1 _) (Nat.le_of_ble_eq_true rfl) rfl (fun u h9 => by first | exact Or.inl rfl | (cases h9; done) | (right; cases h9; first | rfl | exact isR_cat aref_isR | exact isR_cat kv_isR)) ?_
          refine gx_goto (tgt := 48) hC dX7_begin_65 (by decide) ?_
          exact ih (a + 1) (by omega) (by omega) (by omega)
    have h8 := loop_48 155 8 (by omega) (by omega) (by omega)
    rw [zro_0] at h8
    exact h8
  · exact absurd (hx.symm.trans c_7) (by decide)
def mLp (v : Nat → Int32) (x : Int32) : Nat → Nat → Int32
  | 0 => v
  | a + 1 => upd (mLp v x a) (14 + 7 * a + 4) (if mLp v x a (14 + 7 * a + 4) < x then mLp v x a (14 + 7 * a + 4) else 0)
theorem MW.lp {v : Nat → Int32} {lv c : Nat} (h : MW v lv c) (x : Int32) (a : Nat) : MW (mLp v x a) lv c := by
  induction a with
  | zero => exact h
  | succ a ih => exact ih.up (by omega) (by omega)
theorem mLp_lo {v : Nat → Int32} {x : Int32} {k : Nat} (h : k < 14) (a : Nat) : mLp v x a k = v k := by
  induction a with
  | zero => rfl
  | succ a ih => rw [mLp, upd_n (by omega), ih]
set_option maxHeartbeats 4000000 in
set_option maxRecDepth 20000 in
theorem c0_X7_setLap (l : Launch) (z : hZt) {n : Nat} {M : hMem} {R : hRef} (gM : gMd n R) {v : Nat → Int32} {x : Int32} (hx : bIn x 2 8 = false) : hCt l z m_X7_setLap [.ref (z.1 + 215), .int x] n (putRow M 216 v) R n (some (.int (-2))) (putRow M 216 v) R := by
  refine hs_start [some (.ref (z.1 + 215)), some (.int x), none] (by decide +kernel) rfl (by intro u hu; simp at hu; rcases hu with rfl | rfl <;> first | rfl | exact isR_cat kv_isR | exact isR_cat aref_isR) (Nat.le_of_ble_eq_true rfl) (Nat.le_refl _) (fun X hlX hN hC hQ => ?_)
  dsimp only at hC hQ
  refine gx_iload_n (i := 1) hC dX7_setLap_0 rfl rfl ?_
  refine gx_iconst (v := 2) hC dX7_setLap_1 ic_2 ?_
  refine gx_bipush (v := 8) hC dX7_setLap_2 bp_8 ?_
  refine gx_callS1 hC dX7_setLap_4 (c_X7_in _ _ _ _ _) kY_X7_in kS_X7_in ml_X7_41 (by decide) rfl rfl rfl (by first | exact Nat.le_of_ble_eq_true rfl | (simp [Value.category, isR_cat kv_isR, isR_cat aref_isR]; done)) (Nat.le_refl _) (Nat.le_refl _) ?_
  refine gx_ifb_ne (tgt := 13) hC dX7_setLap_7 (by decide) (fun c_7 => ?_) (fun c_7 => ?_)
  · exact absurd (hx.symm.trans c_7) (by decide)
  · refine gx_bipush (v := -2) hC dX7_setLap_10 bp_m2 ?_
    exact gx_iret hC hQ dX7_setLap_12 (rfl) (rfl) rfl
set_option maxHeartbeats 4000000 in
set_option maxRecDepth 20000 in
theorem c_X7_setLap (l : Launch) (z : hZt) {n : Nat} {M : hMem} {R : hRef} (gM : gMd n R) {v : Nat → Int32} {lv c : Nat} (hW : MW v lv c) {q : Nat} (hq5 : q ≤ 5) (hq : M 215 2 = nI q) {x : Int32} (hx : bIn x 2 8 = true) : hCt l z m_X7_setLap [.ref (z.1 + 215), .int x] n (putRow M 216 v) R n (some (.int (v 2))) (putRow (mRc M v q) 216 (upd (mLp v x c) 2 x)) R := by
  refine hs_start [some (.ref (z.1 + 215)), some (.int x), none] (by decide +kernel) rfl (by intro u hu; simp at hu; rcases hu with rfl | rfl <;> first | rfl | exact isR_cat kv_isR | exact isR_cat aref_isR) (Nat.le_of_ble_eq_true rfl) (Nat.le_refl _) (fun X hlX hN hC hQ => ?_)
  dsimp only at hC hQ
  have hc20 := hW.c20
  have hl16 := hW.l16
  refine gx_iload_n (i := 1) hC dX7_setLap_0 rfl rfl ?_
  refine gx_iconst (v := 2) hC dX7_setLap_1 ic_2 ?_
  refine gx_bipush (v := 8) hC dX7_setLap_2 bp_8 ?_
  refine gx_callS1 hC dX7_setLap_4 (c_X7_in _ _ _ _ _) kY_X7_in kS_X7_in ml_X7_41 (by decide) rfl rfl rfl (by first | exact Nat.le_of_ble_eq_true rfl | (simp [Value.category, isR_cat kv_isR, isR_cat aref_isR]; done)) (Nat.le_refl _) (Nat.le_refl _) ?_
  refine gx_ifb_ne (tgt := 13) hC dX7_setLap_7 (by decide) (fun c_7 => ?_) (fun c_7 => ?_)
  · refine gx_aload_n (i := 0) hC dX7_setLap_13 rfl rfl (by first | exact Or.inr ⟨_, rfl⟩ | exact Or.inl rfl | exact kv_isR | exact aref_isR) ?_
    refine gx_callV0 hC dX7_setLap_14 (c_X7_records _ _ gM hq5 hq) kY_X7_records kV_X7_records ml_X7_49 (by first | exact gM.at215 | exact gM.at216 | exact gM.at217 | exact gM.at218 | exact gM.at219 | exact gM.at220 | exact gM.at221 | exact gM.at222 | exact gM.at223 | exact gM.at224 | exact gM.at225) rfl (by decide) rfl rfl rfl (by first | exact Nat.le_of_ble_eq_true rfl | (simp [Value.category, isR_cat kv_isR, isR_cat aref_isR]; done)) (Nat.le_refl _) (Nat.le_refl _) ?_
    refine gx_iconst (v := nI 0) hC dX7_setLap_17 ic_0n ?_
    refine gx_istore_n (i := 2) (L' := [_, _, _]) hC dX7_setLap_18 rfl (Nat.le_of_ble_eq_true rfl) rfl (fun u h9 => by first | exact Or.inl rfl | (cases h9; done) | (right; cases h9; first | rfl | exact isR_cat aref_isR | exact isR_cat kv_isR)) ?_
    have loop_19 : ∀ (k : Nat) (a : Nat), c - a < k → a ≤ c → hG z n X n (putRow (mRc M v q) 216 (mLp v x a)) R 19 [some (.ref (z.1 + 215)), some (.int x), some (.int (nI a))] [] := by
      intro k
      induction k with
      | zero => intros; omega
      | succ k ih =>
        intro a hk1 ha
        refine gx_iload_n (i := 2) hC dX7_setLap_19 rfl rfl ?_
        refine gx_aload_n (i := 0) hC dX7_setLap_20 rfl rfl (by first | exact Or.inr ⟨_, rfl⟩ | exact Or.inl rfl | exact kv_isR | exact aref_isR) ?_
        refine gx_getR hC dX7_setLap_21 fl_X7_7 (by first | exact gM.at215 | exact gM.at216 | exact gM.at217 | exact gM.at218 | exact gM.at219 | exact gM.at220 | exact gM.at221 | exact gM.at222 | exact gM.at223 | exact gM.at224 | exact gM.at225) rfl (gM.r216) (by decide) ?_
        refine gx_iconst (v := nI 3) hC dX7_setLap_24 ic_3n ?_
        refine gx_iald hC dX7_setLap_25 (by first | exact gM.at215 | exact gM.at216 | exact gM.at217 | exact gM.at218 | exact gM.at219 | exact gM.at220 | exact gM.at221 | exact gM.at222 | exact gM.at223 | exact gM.at224 | exact gM.at225) (by exact vpn (by omega) (by decide)) ((pRn (by omega)).trans (hW.lp x a).ct) ?_
        refine gx_icmp_ge (tgt := 76) hC dX7_setLap_26 (by decide) (fun c_26 => ?_) (fun c_26 => ?_)
        · have d_26 := cle (by omega) (by omega) c_26
          refine gx_aload_n (i := 0) hC dX7_setLap_76 rfl rfl (by first | exact Or.inr ⟨_, rfl⟩ | exact Or.inl rfl | exact kv_isR | exact aref_isR) ?_
          refine gx_iconst (v := nI 2) hC dX7_setLap_77 ic_2n ?_
          refine gx_iload_n (i := 1) hC dX7_setLap_78 rfl rfl ?_
          refine gx_callV1 hC dX7_setLap_79 (c_X7_puts _ _ gM (by decide) _) kY_X7_puts kV_X7_puts ml_X7_56 (by first | exact gM.at215 | exact gM.at216 | exact gM.at217 | exact gM.at218 | exact gM.at219 | exact gM.at220 | exact gM.at221 | exact gM.at222 | exact gM.at223 | exact gM.at224 | exact gM.at225) rfl (by decide) rfl rfl rfl (by first | exact Nat.le_of_ble_eq_true rfl | (simp [Value.category, isR_cat kv_isR, isR_cat aref_isR]; done)) (Nat.le_refl _) (Nat.le_refl _) ?_
          exact gx_iret hC hQ dX7_setLap_82 ((by rw [mLp_lo (by decide)])) ((by rw [show c = a by omega])) rfl
        · have d_26 := cnle (by omega) (by omega) c_26
          refine gx_aload_n (i := 0) hC dX7_setLap_29 rfl rfl (by first | exact Or.inr ⟨_, rfl⟩ | exact Or.inl rfl | exact kv_isR | exact aref_isR) ?_
          refine gx_getR hC dX7_setLap_30 fl_X7_7 (by first | exact gM.at215 | exact gM.at216 | exact gM.at217 | exact gM.at218 | exact gM.at219 | exact gM.at220 | exact gM.at221 | exact gM.at222 | exact gM.at223 | exact gM.at224 | exact gM.at225) rfl (gM.r216) (by decide) ?_
          refine gx_iload_n (i := 2) hC dX7_setLap_33 rfl rfl ?_
          refine gx_callS1 hC dX7_setLap_34 (c_X7_at _ _ _) kY_X7_at kS_X7_at ml_X7_52 (by decide) rfl rfl rfl (by first | exact Nat.le_of_ble_eq_true rfl | (simp [Value.category, isR_cat kv_isR, isR_cat aref_isR]; done)) (Nat.le_refl _) (Nat.le_refl _) ?_
          refine gx_iconst (v := nI 4) hC dX7_setLap_37 ic_4n ?_
          refine gx_iadd hC dX7_setLap_38 ?_
          rw [nI_add]
          refine gx_aload_n (i := 0) hC dX7_setLap_39 rfl rfl (by first | exact Or.inr ⟨_, rfl⟩ | exact Or.inl rfl | exact kv_isR | exact aref_isR) ?_
          refine gx_getR hC dX7_setLap_40 fl_X7_7 (by first | exact gM.at215 | exact gM.at216 | exact gM.at217 | exact gM.at218 | exact gM.at219 | exact gM.at220 | exact gM.at221 | exact gM.at222 | exact gM.at223 | exact gM.at224 | exact gM.at225) rfl (gM.r216) (by decide) ?_
          refine gx_iload_n (i := 2) hC dX7_setLap_43 rfl rfl ?_
          refine gx_callS1 hC dX7_setLap_44 (c_X7_at _ _ _) kY_X7_at kS_X7_at ml_X7_52 (by decide) rfl rfl rfl (by first | exact Nat.le_of_ble_eq_true rfl | (simp [Value.category, isR_cat kv_isR, isR_cat aref_isR]; done)) (Nat.le_refl _) (Nat.le_refl _) ?_
          refine gx_iconst (v := nI 4) hC dX7_setLap_47 ic_4n ?_
          refine gx_iadd hC dX7_setLap_48 ?_
          rw [nI_add]
          refine gx_iald hC dX7_setLap_49 (by first | exact gM.at215 | exact gM.at216 | exact gM.at217 | exact gM.at218 | exact gM.at219 | exact gM.at220 | exact gM.at221 | exact gM.at222 | exact gM.at223 | exact gM.at224 | exact gM.at225) (by exact vpn (by omega) (by decide)) (pRn (by omega)) ?_
          refine gx_iload_n (i := 1) hC dX7_setLap_50 rfl rfl ?_
          refine gx_icmp_ge (tgt := 68) hC dX7_setLap_51 (by decide) (fun c_51 => ?_) (fun c_51 => ?_)
          · refine gx_iconst (v := 0) hC dX7_setLap_68 ic_0 ?_
            refine gx_iastM hC dX7_setLap_69 (by first | exact gM.at215 | exact gM.at216 | exact gM.at217 | exact gM.at218 | exact gM.at219 | exact gM.at220 | exact gM.at221 | exact gM.at222 | exact gM.at223 | exact gM.at224 | exact gM.at225) (by exact vpn (by omega) (by decide)) (up_Rn (by omega)) ?_
            refine gx_iinc (i := 2) (L' := [_, _, _]) hC dX7_setLap_70 rfl (ii_1 _) (Nat.le_of_ble_eq_true rfl) rfl (fun u h9 => by first | exact Or.inl rfl | (cases h9; done) | (right; cases h9; first | rfl | exact isR_cat aref_isR | exact isR_cat kv_isR)) ?_
            refine gx_goto (tgt := 19) hC dX7_setLap_73 (by decide) ?_
            have h9 := ih (a + 1) (by omega) (by omega)
            rw [mLp, if_neg (Int32.not_lt.mpr c_51)] at h9
            exact h9
          · refine gx_aload_n (i := 0) hC dX7_setLap_54 rfl rfl (by first | exact Or.inr ⟨_, rfl⟩ | exact Or.inl rfl | exact kv_isR | exact aref_isR) ?_
            refine gx_getR hC dX7_setLap_55 fl_X7_7 (by first | exact gM.at215 | exact gM.at216 | exact gM.at217 | exact gM.at218 | exact gM.at219 | exact gM.at220 | exact gM.at221 | exact gM.at222 | exact gM.at223 | exact gM.at224 | exact gM.at225) rfl (gM.r216) (by decide) ?_
            refine gx_iload_n (i := 2) hC dX7_setLap_58 rfl rfl ?_
            refine gx_callS1 hC dX7_setLap_59 (c_X7_at _ _ _) kY_X7_at kS_X7_at ml_X7_52 (by decide) rfl rfl rfl (by first | exact Nat.le_of_ble_eq_true rfl | (simp [Value.category, isR_cat kv_isR, isR_cat aref_isR]; done)) (Nat.le_refl _) (Nat.le_refl _) ?_
            refine gx_iconst (v := nI 4) hC dX7_setLap_62 ic_4n ?_
            refine gx_iadd hC dX7_setLap_63 ?_
            rw [nI_add]
            refine gx_iald hC dX7_setLap_64 (by first | exact gM.at215 | exact gM.at216 | exact gM.at217 | exact gM.at218 | exact gM.at219 | exact gM.at220 | exact gM.at221 | exact gM.at222 | exact gM.at223 | exact gM.at224 | exact gM.at225) (by exact vpn (by omega) (by decide)) (pRn (by omega)) ?_
            refine gx_goto (tgt := 69) hC dX7_setLap_65 (by decide) ?_
            refine gx_iastM hC dX7_setLap_69 (by first | exact gM.at215 | exact gM.at216 | exact gM.at217 | exact gM.at218 | exact gM.at219 | exact gM.at220 | exact gM.at221 | exact gM.at222 | exact gM.at223 | exact gM.at224 | exact gM.at225) (by exact vpn (by omega) (by decide)) (up_Rn (by omega)) ?_
            refine gx_iinc (i := 2) (L' := [_, _, _]) hC dX7_setLap_70 rfl (ii_1 _) (Nat.le_of_ble_eq_true rfl) rfl (fun u h9 => by first | exact Or.inl rfl | (cases h9; done) | (right; cases h9; first | rfl | exact isR_cat aref_isR | exact isR_cat kv_isR)) ?_
            refine gx_goto (tgt := 19) hC dX7_setLap_73 (by decide) ?_
            have h9 := ih (a + 1) (by omega) (by omega)
            rw [mLp, if_pos (Int32.not_le.mp c_51)] at h9
            exact h9
    exact loop_19 (c + 1) 0 (by omega) (by omega)
  · exact absurd (hx.symm.trans c_7) (by decide)
set_option maxHeartbeats 4000000 in
set_option maxRecDepth 20000 in
theorem c0_X7_setLimit (l : Launch) (z : hZt) {n : Nat} {M : hMem} {R : hRef} (gM : gMd n R) {v : Nat → Int32} {x : Int32} (hx : bIn x 1 16 = false) : hCt l z m_X7_setLimit [.ref (z.1 + 215), .int x] n (putRow M 216 v) R n (some (.int (-2))) (putRow M 216 v) R := by
  refine hs_start [some (.ref (z.1 + 215)), some (.int x)] (by decide +kernel) rfl (by intro u hu; simp at hu; rcases hu with rfl | rfl <;> first | rfl | exact isR_cat kv_isR | exact isR_cat aref_isR) (Nat.le_of_ble_eq_true rfl) (Nat.le_refl _) (fun X hlX hN hC hQ => ?_)
  dsimp only at hC hQ
  refine gx_iload_n (i := 1) hC dX7_setLimit_0 rfl rfl ?_
  refine gx_iconst (v := 1) hC dX7_setLimit_1 ic_1 ?_
  refine gx_bipush (v := 16) hC dX7_setLimit_2 bp_16 ?_
  refine gx_callS1 hC dX7_setLimit_4 (c_X7_in _ _ _ _ _) kY_X7_in kS_X7_in ml_X7_41 (by decide) rfl rfl rfl (by first | exact Nat.le_of_ble_eq_true rfl | (simp [Value.category, isR_cat kv_isR, isR_cat aref_isR]; done)) (Nat.le_refl _) (Nat.le_refl _) ?_
  refine gx_ifb_ne (tgt := 13) hC dX7_setLimit_7 (by decide) (fun c_7 => ?_) (fun c_7 => ?_)
  · exact absurd (hx.symm.trans c_7) (by decide)
  · refine gx_bipush (v := -2) hC dX7_setLimit_10 bp_m2 ?_
    exact gx_iret hC hQ dX7_setLimit_12 (rfl) (rfl) rfl
set_option maxHeartbeats 4000000 in
set_option maxRecDepth 20000 in
theorem c_X7_setLimit (l : Launch) (z : hZt) {n : Nat} {M : hMem} {R : hRef} (gM : gMd n R) {v : Nat → Int32} {q : Nat} (hq5 : q ≤ 5) (hq : M 215 2 = nI q) {x : Int32} (hx : bIn x 1 16 = true) : hCt l z m_X7_setLimit [.ref (z.1 + 215), .int x] n (putRow M 216 v) R n (some (.int (v 7))) (putRow (mRc M v q) 216 (upd v 7 x)) R := by
  refine hs_start [some (.ref (z.1 + 215)), some (.int x)] (by decide +kernel) rfl (by intro u hu; simp at hu; rcases hu with rfl | rfl <;> first | rfl | exact isR_cat kv_isR | exact isR_cat aref_isR) (Nat.le_of_ble_eq_true rfl) (Nat.le_refl _) (fun X hlX hN hC hQ => ?_)
  dsimp only at hC hQ
  refine gx_iload_n (i := 1) hC dX7_setLimit_0 rfl rfl ?_
  refine gx_iconst (v := 1) hC dX7_setLimit_1 ic_1 ?_
  refine gx_bipush (v := 16) hC dX7_setLimit_2 bp_16 ?_
  refine gx_callS1 hC dX7_setLimit_4 (c_X7_in _ _ _ _ _) kY_X7_in kS_X7_in ml_X7_41 (by decide) rfl rfl rfl (by first | exact Nat.le_of_ble_eq_true rfl | (simp [Value.category, isR_cat kv_isR, isR_cat aref_isR]; done)) (Nat.le_refl _) (Nat.le_refl _) ?_
  refine gx_ifb_ne (tgt := 13) hC dX7_setLimit_7 (by decide) (fun c_7 => ?_) (fun c_7 => ?_)
  · refine gx_aload_n (i := 0) hC dX7_setLimit_13 rfl rfl (by first | exact Or.inr ⟨_, rfl⟩ | exact Or.inl rfl | exact kv_isR | exact aref_isR) ?_
    refine gx_callV0 hC dX7_setLimit_14 (c_X7_records _ _ gM hq5 hq) kY_X7_records kV_X7_records ml_X7_49 (by first | exact gM.at215 | exact gM.at216 | exact gM.at217 | exact gM.at218 | exact gM.at219 | exact gM.at220 | exact gM.at221 | exact gM.at222 | exact gM.at223 | exact gM.at224 | exact gM.at225) rfl (by decide) rfl rfl rfl (by first | exact Nat.le_of_ble_eq_true rfl | (simp [Value.category, isR_cat kv_isR, isR_cat aref_isR]; done)) (Nat.le_refl _) (Nat.le_refl _) ?_
    refine gx_aload_n (i := 0) hC dX7_setLimit_17 rfl rfl (by first | exact Or.inr ⟨_, rfl⟩ | exact Or.inl rfl | exact kv_isR | exact aref_isR) ?_
    refine gx_bipush (v := nI 7) hC dX7_setLimit_18 bp_7n ?_
    refine gx_iload_n (i := 1) hC dX7_setLimit_20 rfl rfl ?_
    refine gx_callV1 hC dX7_setLimit_21 (c_X7_puts _ _ gM (by decide) _) kY_X7_puts kV_X7_puts ml_X7_56 (by first | exact gM.at215 | exact gM.at216 | exact gM.at217 | exact gM.at218 | exact gM.at219 | exact gM.at220 | exact gM.at221 | exact gM.at222 | exact gM.at223 | exact gM.at224 | exact gM.at225) rfl (by decide) rfl rfl rfl (by first | exact Nat.le_of_ble_eq_true rfl | (simp [Value.category, isR_cat kv_isR, isR_cat aref_isR]; done)) (Nat.le_refl _) (Nat.le_refl _) ?_
    exact gx_iret hC hQ dX7_setLimit_24 (rfl) (rfl) rfl
  · exact absurd (hx.symm.trans c_7) (by decide)
set_option maxHeartbeats 4000000 in
set_option maxRecDepth 20000 in
theorem c_X7_opens (l : Launch) (z : hZt) {n : Nat} {M : hMem} {R : hRef} (gM : gMd n R) {v : Nat → Int32} {x : Int32} (hx : x = 0 ∨ x = 1) : hCt l z m_X7_opens [.ref (z.1 + 215), .int x] n (putRow M 216 v) R n (some (.int (v 5))) (putRow M 216 (upd v 5 x)) R := by
  refine hs_start [some (.ref (z.1 + 215)), some (.int x)] (by decide +kernel) rfl (by intro u hu; simp at hu; rcases hu with rfl | rfl <;> first | rfl | exact isR_cat kv_isR | exact isR_cat aref_isR) (Nat.le_of_ble_eq_true rfl) (Nat.le_refl _) (fun X hlX hN hC hQ => ?_)
  dsimp only at hC hQ
  refine gx_aload_n (i := 0) hC dX7_opens_0 rfl rfl (by first | exact Or.inr ⟨_, rfl⟩ | exact Or.inl rfl | exact kv_isR | exact aref_isR) ?_
  refine gx_iconst (v := nI 5) hC dX7_opens_1 ic_5n ?_
  refine gx_iload_n (i := 1) hC dX7_opens_2 rfl rfl ?_
  refine gx_if_eq (tgt := 10) hC dX7_opens_3 (by decide) (fun c_3 => ?_) (fun c_3 => ?_)
  · refine gx_iconst (v := 0) hC dX7_opens_10 ic_0 ?_
    refine gx_callV1 hC dX7_opens_11 (c_X7_puts _ _ gM (by decide) _) kY_X7_puts kV_X7_puts ml_X7_56 (by first | exact gM.at215 | exact gM.at216 | exact gM.at217 | exact gM.at218 | exact gM.at219 | exact gM.at220 | exact gM.at221 | exact gM.at222 | exact gM.at223 | exact gM.at224 | exact gM.at225) rfl (by decide) rfl rfl rfl (by first | exact Nat.le_of_ble_eq_true rfl | (simp [Value.category, isR_cat kv_isR, isR_cat aref_isR]; done)) (Nat.le_refl _) (Nat.le_refl _) ?_
    exact gx_iret hC hQ dX7_opens_14 (rfl) ((by rw [c_3])) rfl
  · refine gx_iconst (v := 1) hC dX7_opens_6 ic_1 ?_
    refine gx_goto (tgt := 11) hC dX7_opens_7 (by decide) ?_
    refine gx_callV1 hC dX7_opens_11 (c_X7_puts _ _ gM (by decide) _) kY_X7_puts kV_X7_puts ml_X7_56 (by first | exact gM.at215 | exact gM.at216 | exact gM.at217 | exact gM.at218 | exact gM.at219 | exact gM.at220 | exact gM.at221 | exact gM.at222 | exact gM.at223 | exact gM.at224 | exact gM.at225) rfl (by decide) rfl rfl rfl (by first | exact Nat.le_of_ble_eq_true rfl | (simp [Value.category, isR_cat kv_isR, isR_cat aref_isR]; done)) (Nat.le_refl _) (Nat.le_refl _) ?_
    exact gx_iret hC hQ dX7_opens_14 (rfl) ((by rw [show x = 1 from hx.resolve_left c_3])) rfl
set_option maxHeartbeats 4000000 in
set_option maxRecDepth 20000 in
theorem c_X7_setRunway (l : Launch) (z : hZt) {n : Nat} {M : hMem} {R : hRef} (gM : gMd n R) {v : Nat → Int32} {q : Nat} (hq5 : q ≤ 5) (hq : M 215 2 = nI q) {x : Int32} (hx : x = 0 ∨ x = 1) : hCt l z m_X7_setRunway [.ref (z.1 + 215), .int x] n (putRow M 216 v) R n (some (.int (v 5))) (putRow (mRc M v q) 216 (upd v 5 x)) R := by
  refine hs_start [some (.ref (z.1 + 215)), some (.int x)] (by decide +kernel) rfl (by intro u hu; simp at hu; rcases hu with rfl | rfl <;> first | rfl | exact isR_cat kv_isR | exact isR_cat aref_isR) (Nat.le_of_ble_eq_true rfl) (Nat.le_refl _) (fun X hlX hN hC hQ => ?_)
  dsimp only at hC hQ
  refine gx_aload_n (i := 0) hC dX7_setRunway_0 rfl rfl (by first | exact Or.inr ⟨_, rfl⟩ | exact Or.inl rfl | exact kv_isR | exact aref_isR) ?_
  refine gx_callV0 hC dX7_setRunway_1 (c_X7_records _ _ gM hq5 hq) kY_X7_records kV_X7_records ml_X7_49 (by first | exact gM.at215 | exact gM.at216 | exact gM.at217 | exact gM.at218 | exact gM.at219 | exact gM.at220 | exact gM.at221 | exact gM.at222 | exact gM.at223 | exact gM.at224 | exact gM.at225) rfl (by decide) rfl rfl rfl (by first | exact Nat.le_of_ble_eq_true rfl | (simp [Value.category, isR_cat kv_isR, isR_cat aref_isR]; done)) (Nat.le_refl _) (Nat.le_refl _) ?_
  refine gx_aload_n (i := 0) hC dX7_setRunway_4 rfl rfl (by first | exact Or.inr ⟨_, rfl⟩ | exact Or.inl rfl | exact kv_isR | exact aref_isR) ?_
  refine gx_iload_n (i := 1) hC dX7_setRunway_5 rfl rfl ?_
  refine gx_callV1 hC dX7_setRunway_6 (c_X7_opens _ _ gM hx) kY_X7_opens kV_X7_opens ml_X7_60 (by first | exact gM.at215 | exact gM.at216 | exact gM.at217 | exact gM.at218 | exact gM.at219 | exact gM.at220 | exact gM.at221 | exact gM.at222 | exact gM.at223 | exact gM.at224 | exact gM.at225) rfl (by decide) rfl rfl rfl (by first | exact Nat.le_of_ble_eq_true rfl | (simp [Value.category, isR_cat kv_isR, isR_cat aref_isR]; done)) (Nat.le_refl _) (Nat.le_refl _) ?_
  exact gx_iret hC hQ dX7_setRunway_9 (rfl) (rfl) rfl
set_option maxHeartbeats 4000000 in
set_option maxRecDepth 20000 in
theorem c_X7_setLadder (l : Launch) (z : hZt) {n : Nat} {M : hMem} {R : hRef} (gM : gMd n R) {v : Nat → Int32} {q : Nat} (hq5 : q ≤ 5) (hq : M 215 2 = nI q) {x : Int32} (hx : x = 0 ∨ x = 1) : hCt l z m_X7_setLadder [.ref (z.1 + 215), .int x] n (putRow M 216 v) R n (some (.int (v 6))) (putRow (mRc M v q) 216 (upd v 6 x)) R := by
  refine hs_start [some (.ref (z.1 + 215)), some (.int x)] (by decide +kernel) rfl (by intro u hu; simp at hu; rcases hu with rfl | rfl <;> first | rfl | exact isR_cat kv_isR | exact isR_cat aref_isR) (Nat.le_of_ble_eq_true rfl) (Nat.le_refl _) (fun X hlX hN hC hQ => ?_)
  dsimp only at hC hQ
  refine gx_aload_n (i := 0) hC dX7_setLadder_0 rfl rfl (by first | exact Or.inr ⟨_, rfl⟩ | exact Or.inl rfl | exact kv_isR | exact aref_isR) ?_
  refine gx_callV0 hC dX7_setLadder_1 (c_X7_records _ _ gM hq5 hq) kY_X7_records kV_X7_records ml_X7_49 (by first | exact gM.at215 | exact gM.at216 | exact gM.at217 | exact gM.at218 | exact gM.at219 | exact gM.at220 | exact gM.at221 | exact gM.at222 | exact gM.at223 | exact gM.at224 | exact gM.at225) rfl (by decide) rfl rfl rfl (by first | exact Nat.le_of_ble_eq_true rfl | (simp [Value.category, isR_cat kv_isR, isR_cat aref_isR]; done)) (Nat.le_refl _) (Nat.le_refl _) ?_
  refine gx_aload_n (i := 0) hC dX7_setLadder_4 rfl rfl (by first | exact Or.inr ⟨_, rfl⟩ | exact Or.inl rfl | exact kv_isR | exact aref_isR) ?_
  refine gx_bipush (v := nI 6) hC dX7_setLadder_5 bp_6n ?_
  refine gx_iload_n (i := 1) hC dX7_setLadder_7 rfl rfl ?_
  refine gx_if_eq (tgt := 15) hC dX7_setLadder_8 (by decide) (fun c_8 => ?_) (fun c_8 => ?_)
  · refine gx_iconst (v := 0) hC dX7_setLadder_15 ic_0 ?_
    refine gx_callV1 hC dX7_setLadder_16 (c_X7_puts _ _ gM (by decide) _) kY_X7_puts kV_X7_puts ml_X7_56 (by first | exact gM.at215 | exact gM.at216 | exact gM.at217 | exact gM.at218 | exact gM.at219 | exact gM.at220 | exact gM.at221 | exact gM.at222 | exact gM.at223 | exact gM.at224 | exact gM.at225) rfl (by decide) rfl rfl rfl (by first | exact Nat.le_of_ble_eq_true rfl | (simp [Value.category, isR_cat kv_isR, isR_cat aref_isR]; done)) (Nat.le_refl _) (Nat.le_refl _) ?_
    exact gx_iret hC hQ dX7_setLadder_19 (rfl) ((by rw [c_8])) rfl
  · refine gx_iconst (v := 1) hC dX7_setLadder_11 ic_1 ?_
    refine gx_goto (tgt := 16) hC dX7_setLadder_12 (by decide) ?_
    refine gx_callV1 hC dX7_setLadder_16 (c_X7_puts _ _ gM (by decide) _) kY_X7_puts kV_X7_puts ml_X7_56 (by first | exact gM.at215 | exact gM.at216 | exact gM.at217 | exact gM.at218 | exact gM.at219 | exact gM.at220 | exact gM.at221 | exact gM.at222 | exact gM.at223 | exact gM.at224 | exact gM.at225) rfl (by decide) rfl rfl rfl (by first | exact Nat.le_of_ble_eq_true rfl | (simp [Value.category, isR_cat kv_isR, isR_cat aref_isR]; done)) (Nat.le_refl _) (Nat.le_refl _) ?_
    exact gx_iret hC hQ dX7_setLadder_19 (rfl) ((by rw [show x = 1 from hx.resolve_left c_8])) rfl
def mB1 (v : Nat → Int32) (a : Nat) : Nat → Int32 :=
  if v (14 + 7 * a + 2) = 0 then
    let b := if mBurn v a (v (14 + 7 * a + 3)) < v (14 + 7 * a + 1) then mBurn v a (v (14 + 7 * a + 3)) else v (14 + 7 * a + 1)
    let g := upd v (14 + 7 * a + 1) (v (14 + 7 * a + 1) - b)
    let g2 := upd g 10 (g 10 + b)
    upd g2 (14 + 7 * a + 4) (if g2 (14 + 7 * a + 4) + 1 = g2 2 then 0 else g2 (14 + 7 * a + 4) + 1)
  else v
def mBs (v : Nat → Int32) : Nat → Nat → Int32
  | 0 => v
  | a + 1 => mB1 (mBs v a) a
theorem MW.b1 {v : Nat → Int32} {lv c : Nat} (h : MW v lv c) (a : Nat) : MW (mB1 v a) lv c := by
  unfold mB1
  split
  · exact ((h.up (by omega) (by omega)).up (by omega) (by omega)).up (by omega) (by omega)
  · exact h
theorem MW.bs {v : Nat → Int32} {lv c : Nat} (h : MW v lv c) (a : Nat) : MW (mBs v a) lv c := by
  induction a with
  | zero => exact h
  | succ a ih => exact ih.b1 a
theorem MW.leave {v : Nat → Int32} {lv c : Nat} (h : MW v lv c) (a : Nat) (x : Int32) : MW (mLeave v a x) lv c := by
  unfold mLeave
  simp only
  split
  · exact ((h.up (by omega) (by omega)).up (by omega) (by omega)).up (by omega) (by omega)
  · exact ((h.up (by omega) (by omega)).up (by omega) (by omega)).up (by omega) (by omega)
def mD1 (v : Nat → Int32) (a : Nat) : Nat → Int32 :=
  if v (14 + 7 * a + 2) = 0 ∧ 2 * v (14 + 7 * a + 1) < kRes (v (14 + 7 * a)) then mLeave v a 2 else v
def mDs (v : Nat → Int32) : Nat → Nat → Int32
  | 0 => v
  | a + 1 => mD1 (mDs v a) a
theorem MW.ds {v : Nat → Int32} {lv c : Nat} (h : MW v lv c) (a : Nat) : MW (mDs v a) lv c := by
  induction a with
  | zero => exact h
  | succ a ih =>
    rw [mDs, mD1]
    split
    · exact ih.leave a 2
    · exact ih
def mBu (v : Nat → Int32) (c : Nat) : Nat → Int32 := mDs (mBs v c) c
theorem MW.bu {v : Nat → Int32} {lv c : Nat} (h : MW v lv c) : MW (mBu v c) lv c := (h.bs c).ds c
set_option maxHeartbeats 4000000 in
set_option maxRecDepth 20000 in
theorem c_X7_burns (l : Launch) (z : hZt) {n : Nat} {M : hMem} {R : hRef} (gM : gMd n R) {v : Nat → Int32} {lv c : Nat} (hW : MW v lv c) (hR3 : CR M) : hCt l z m_X7_burns [.ref (z.1 + 215)] n (putRow M 216 v) R n none (putRow M 216 (mBu v c)) R := by
  refine hs_start [some (.ref (z.1 + 215)), none, none, none] (by decide +kernel) rfl (by intro u hu; simp at hu; subst hu <;> first | rfl | exact isR_cat kv_isR | exact isR_cat aref_isR) (Nat.le_of_ble_eq_true rfl) (Nat.le_refl _) (fun X hlX hN hC hQ => ?_)
  dsimp only at hC hQ
  have hc20 := hW.c20
  have hl16 := hW.l16
  refine gx_iconst (v := nI 0) hC dX7_burns_0 ic_0n ?_
  refine gx_istore_n (i := 1) (L' := [_, _, _, _]) hC dX7_burns_1 rfl (Nat.le_of_ble_eq_true rfl) rfl (fun u h9 => by first | exact Or.inl rfl | (cases h9; done) | (right; cases h9; first | rfl | exact isR_cat aref_isR | exact isR_cat kv_isR)) ?_
  have loop_2 : ∀ (k : Nat) (a : Nat) (u2 u3 : Option Value), c - a < k → a ≤ c → hG z n X n (putRow M 216 (mBs v a)) R 2 [some (.ref (z.1 + 215)), some (.int (nI a)), u2, u3] [] := by
    intro k
    induction k with
    | zero => intros; omega
    | succ k ih =>
      intro a u2 u3 hk1 ha
      refine gx_iload_n (i := 1) hC dX7_burns_2 rfl rfl ?_
      refine gx_aload_n (i := 0) hC dX7_burns_3 rfl rfl (by first | exact Or.inr ⟨_, rfl⟩ | exact Or.inl rfl | exact kv_isR | exact aref_isR) ?_
      refine gx_getR hC dX7_burns_4 fl_X7_7 (by first | exact gM.at215 | exact gM.at216 | exact gM.at217 | exact gM.at218 | exact gM.at219 | exact gM.at220 | exact gM.at221 | exact gM.at222 | exact gM.at223 | exact gM.at224 | exact gM.at225) rfl (gM.r216) (by decide) ?_
      refine gx_iconst (v := nI 3) hC dX7_burns_7 ic_3n ?_
      refine gx_iald hC dX7_burns_8 (by first | exact gM.at215 | exact gM.at216 | exact gM.at217 | exact gM.at218 | exact gM.at219 | exact gM.at220 | exact gM.at221 | exact gM.at222 | exact gM.at223 | exact gM.at224 | exact gM.at225) (by exact vpn (by omega) (by decide)) ((pRn (by omega)).trans (hW.bs a).ct) ?_
      refine gx_icmp_ge (tgt := 137) hC dX7_burns_9 (by decide) (fun c_9 => ?_) (fun c_9 => ?_)
      · have d_9 := cle (by omega) (by omega) c_9
        refine gx_iconst (v := nI 0) hC dX7_burns_137 ic_0n ?_
        refine gx_istore_n (i := 1) (L' := [_, _, _, _]) hC dX7_burns_138 rfl (Nat.le_of_ble_eq_true rfl) rfl (fun u h9 => by first | exact Or.inl rfl | (cases h9; done) | (right; cases h9; first | rfl | exact isR_cat aref_isR | exact isR_cat kv_isR)) ?_
        have loop_139 : ∀ (k : Nat) (a : Nat), c - a < k → a ≤ c → hG z n X n (putRow M 216 (mDs (mBs v c) a)) R 139 [some (.ref (z.1 + 215)), some (.int (nI a)), u2, u3] [] := by
          intro k
          induction k with
          | zero => intros; omega
          | succ k ih =>
            intro a hk1 ha
            refine gx_iload_n (i := 1) hC dX7_burns_139 rfl rfl ?_
            refine gx_aload_n (i := 0) hC dX7_burns_140 rfl rfl (by first | exact Or.inr ⟨_, rfl⟩ | exact Or.inl rfl | exact kv_isR | exact aref_isR) ?_
            refine gx_getR hC dX7_burns_141 fl_X7_7 (by first | exact gM.at215 | exact gM.at216 | exact gM.at217 | exact gM.at218 | exact gM.at219 | exact gM.at220 | exact gM.at221 | exact gM.at222 | exact gM.at223 | exact gM.at224 | exact gM.at225) rfl (gM.r216) (by decide) ?_
            refine gx_iconst (v := nI 3) hC dX7_burns_144 ic_3n ?_
            refine gx_iald hC dX7_burns_145 (by first | exact gM.at215 | exact gM.at216 | exact gM.at217 | exact gM.at218 | exact gM.at219 | exact gM.at220 | exact gM.at221 | exact gM.at222 | exact gM.at223 | exact gM.at224 | exact gM.at225) (by exact vpn (by omega) (by decide)) ((pRn (by omega)).trans ((hW.bs c).ds a).ct) ?_
            refine gx_icmp_ge (tgt := 205) hC dX7_burns_146 (by decide) (fun c_146 => ?_) (fun c_146 => ?_)
            · have d_146 := cle (by omega) (by omega) c_146
              exact gx_vret hC hQ dX7_burns_205 ((by obtain rfl : a = c := (by omega); rfl)) rfl
            · have d_146 := cnle (by omega) (by omega) c_146
              refine gx_aload_n (i := 0) hC dX7_burns_149 rfl rfl (by first | exact Or.inr ⟨_, rfl⟩ | exact Or.inl rfl | exact kv_isR | exact aref_isR) ?_
              refine gx_getR hC dX7_burns_150 fl_X7_7 (by first | exact gM.at215 | exact gM.at216 | exact gM.at217 | exact gM.at218 | exact gM.at219 | exact gM.at220 | exact gM.at221 | exact gM.at222 | exact gM.at223 | exact gM.at224 | exact gM.at225) rfl (gM.r216) (by decide) ?_
              refine gx_iload_n (i := 1) hC dX7_burns_153 rfl rfl ?_
              refine gx_callS1 hC dX7_burns_154 (c_X7_at _ _ _) kY_X7_at kS_X7_at ml_X7_52 (by decide) rfl rfl rfl (by first | exact Nat.le_of_ble_eq_true rfl | (simp [Value.category, isR_cat kv_isR, isR_cat aref_isR]; done)) (Nat.le_refl _) (Nat.le_refl _) ?_
              refine gx_iconst (v := nI 2) hC dX7_burns_157 ic_2n ?_
              refine gx_iadd hC dX7_burns_158 ?_
              rw [nI_add]
              refine gx_iald hC dX7_burns_159 (by first | exact gM.at215 | exact gM.at216 | exact gM.at217 | exact gM.at218 | exact gM.at219 | exact gM.at220 | exact gM.at221 | exact gM.at222 | exact gM.at223 | exact gM.at224 | exact gM.at225) (by exact vpn (by omega) (by decide)) (pRn (by omega)) ?_
              refine gx_if_ne (tgt := 199) hC dX7_burns_160 (by decide) (fun c_160 => ?_) (fun c_160 => ?_)
              · refine gx_iinc (i := 1) (L' := [_, _, _, _]) hC dX7_burns_199 rfl (ii_1 _) (Nat.le_of_ble_eq_true rfl) rfl (fun u h9 => by first | exact Or.inl rfl | (cases h9; done) | (right; cases h9; first | rfl | exact isR_cat aref_isR | exact isR_cat kv_isR)) ?_
                refine gx_goto (tgt := 139) hC dX7_burns_202 (by decide) ?_
                have h9 := ih (a + 1) (by omega) (by omega)
                rw [mDs, mD1] at h9
                rw [if_neg (fun q => c_160 q.1)] at h9
                exact h9
              · refine gx_iconst (v := 2) hC dX7_burns_163 ic_2 ?_
                refine gx_aload_n (i := 0) hC dX7_burns_164 rfl rfl (by first | exact Or.inr ⟨_, rfl⟩ | exact Or.inl rfl | exact kv_isR | exact aref_isR) ?_
                refine gx_getR hC dX7_burns_165 fl_X7_7 (by first | exact gM.at215 | exact gM.at216 | exact gM.at217 | exact gM.at218 | exact gM.at219 | exact gM.at220 | exact gM.at221 | exact gM.at222 | exact gM.at223 | exact gM.at224 | exact gM.at225) rfl (gM.r216) (by decide) ?_
                refine gx_iload_n (i := 1) hC dX7_burns_168 rfl rfl ?_
                refine gx_callS1 hC dX7_burns_169 (c_X7_at _ _ _) kY_X7_at kS_X7_at ml_X7_52 (by decide) rfl rfl rfl (by first | exact Nat.le_of_ble_eq_true rfl | (simp [Value.category, isR_cat kv_isR, isR_cat aref_isR]; done)) (Nat.le_refl _) (Nat.le_refl _) ?_
                refine gx_iconst (v := nI 1) hC dX7_burns_172 ic_1n ?_
                refine gx_iadd hC dX7_burns_173 ?_
                rw [nI_add]
                refine gx_iald hC dX7_burns_174 (by first | exact gM.at215 | exact gM.at216 | exact gM.at217 | exact gM.at218 | exact gM.at219 | exact gM.at220 | exact gM.at221 | exact gM.at222 | exact gM.at223 | exact gM.at224 | exact gM.at225) (by exact vpn (by omega) (by decide)) (pRn (by omega)) ?_
                refine gx_imul hC dX7_burns_175 ?_
                refine gx_aload_n (i := 0) hC dX7_burns_176 rfl rfl (by first | exact Or.inr ⟨_, rfl⟩ | exact Or.inl rfl | exact kv_isR | exact aref_isR) ?_
                refine gx_getR hC dX7_burns_177 fl_X7_35 (by first | exact gM.at215 | exact gM.at216 | exact gM.at217 | exact gM.at218 | exact gM.at219 | exact gM.at220 | exact gM.at221 | exact gM.at222 | exact gM.at223 | exact gM.at224 | exact gM.at225) rfl (gM.r224) (by decide) ?_
                refine gx_aload_n (i := 0) hC dX7_burns_180 rfl rfl (by first | exact Or.inr ⟨_, rfl⟩ | exact Or.inl rfl | exact kv_isR | exact aref_isR) ?_
                refine gx_getR hC dX7_burns_181 fl_X7_7 (by first | exact gM.at215 | exact gM.at216 | exact gM.at217 | exact gM.at218 | exact gM.at219 | exact gM.at220 | exact gM.at221 | exact gM.at222 | exact gM.at223 | exact gM.at224 | exact gM.at225) rfl (gM.r216) (by decide) ?_
                refine gx_iload_n (i := 1) hC dX7_burns_184 rfl rfl ?_
                refine gx_callS1 hC dX7_burns_185 (c_X7_at _ _ _) kY_X7_at kS_X7_at ml_X7_52 (by decide) rfl rfl rfl (by first | exact Nat.le_of_ble_eq_true rfl | (simp [Value.category, isR_cat kv_isR, isR_cat aref_isR]; done)) (Nat.le_refl _) (Nat.le_refl _) ?_
                refine gx_iald hC dX7_burns_188 (by first | exact gM.at215 | exact gM.at216 | exact gM.at217 | exact gM.at218 | exact gM.at219 | exact gM.at220 | exact gM.at221 | exact gM.at222 | exact gM.at223 | exact gM.at224 | exact gM.at225) (by exact vpn (by omega) (by decide)) (pRn (by omega)) ?_
                refine gx_iald hC dX7_burns_189 (by first | exact gM.at215 | exact gM.at216 | exact gM.at217 | exact gM.at218 | exact gM.at219 | exact gM.at220 | exact gM.at221 | exact gM.at222 | exact gM.at223 | exact gM.at224 | exact gM.at225) (by exact hk_in (((hW.bs c).ds a).kd (by omega))) ((pRo (by decide)).trans ((hR3 _ (((hW.bs c).ds a).kd (by omega))).2.1)) ?_
                refine gx_icmp_ge (tgt := 199) hC dX7_burns_190 (by decide) (fun c_190 => ?_) (fun c_190 => ?_)
                · refine gx_iinc (i := 1) (L' := [_, _, _, _]) hC dX7_burns_199 rfl (ii_1 _) (Nat.le_of_ble_eq_true rfl) rfl (fun u h9 => by first | exact Or.inl rfl | (cases h9; done) | (right; cases h9; first | rfl | exact isR_cat aref_isR | exact isR_cat kv_isR)) ?_
                  refine gx_goto (tgt := 139) hC dX7_burns_202 (by decide) ?_
                  have h9 := ih (a + 1) (by omega) (by omega)
                  rw [mDs, mD1] at h9
                  rw [if_neg (fun q => absurd q.2 (Int32.not_lt.mpr c_190))] at h9
                  exact h9
                · refine gx_aload_n (i := 0) hC dX7_burns_193 rfl rfl (by first | exact Or.inr ⟨_, rfl⟩ | exact Or.inl rfl | exact kv_isR | exact aref_isR) ?_
                  refine gx_iload_n (i := 1) hC dX7_burns_194 rfl rfl ?_
                  refine gx_iconst (v := 2) hC dX7_burns_195 ic_2 ?_
                  refine gx_callV0 hC dX7_burns_196 (c_X7_leaves _ _ gM ((hW.bs c).ds a) (by omega) _) kY_X7_leaves kV_X7_leaves ml_X7_94 (by first | exact gM.at215 | exact gM.at216 | exact gM.at217 | exact gM.at218 | exact gM.at219 | exact gM.at220 | exact gM.at221 | exact gM.at222 | exact gM.at223 | exact gM.at224 | exact gM.at225) rfl (by decide) rfl rfl rfl (by first | exact Nat.le_of_ble_eq_true rfl | (simp [Value.category, isR_cat kv_isR, isR_cat aref_isR]; done)) (Nat.le_refl _) (Nat.le_refl _) ?_
                  refine gx_iinc (i := 1) (L' := [_, _, _, _]) hC dX7_burns_199 rfl (ii_1 _) (Nat.le_of_ble_eq_true rfl) rfl (fun u h9 => by first | exact Or.inl rfl | (cases h9; done) | (right; cases h9; first | rfl | exact isR_cat aref_isR | exact isR_cat kv_isR)) ?_
                  refine gx_goto (tgt := 139) hC dX7_burns_202 (by decide) ?_
                  have h9 := ih (a + 1) (by omega) (by omega)
                  rw [mDs, mD1] at h9
                  rw [if_pos ⟨c_160, Int32.not_le.mp c_190⟩] at h9
                  exact h9
        obtain rfl : a = c := by omega
        exact loop_139 (a + 1) 0 (by omega) (by omega)
      · have d_9 := cnle (by omega) (by omega) c_9
        refine gx_iload_n (i := 1) hC dX7_burns_12 rfl rfl ?_
        refine gx_callS1 hC dX7_burns_13 (c_X7_at _ _ _) kY_X7_at kS_X7_at ml_X7_52 (by decide) rfl rfl rfl (by first | exact Nat.le_of_ble_eq_true rfl | (simp [Value.category, isR_cat kv_isR, isR_cat aref_isR]; done)) (Nat.le_refl _) (Nat.le_refl _) ?_
        refine gx_istore_n (i := 2) (L' := [_, _, _, _]) hC dX7_burns_16 rfl (Nat.le_of_ble_eq_true rfl) rfl (fun u h9 => by first | exact Or.inl rfl | (cases h9; done) | (right; cases h9; first | rfl | exact isR_cat aref_isR | exact isR_cat kv_isR)) ?_
        refine gx_aload_n (i := 0) hC dX7_burns_17 rfl rfl (by first | exact Or.inr ⟨_, rfl⟩ | exact Or.inl rfl | exact kv_isR | exact aref_isR) ?_
        refine gx_getR hC dX7_burns_18 fl_X7_7 (by first | exact gM.at215 | exact gM.at216 | exact gM.at217 | exact gM.at218 | exact gM.at219 | exact gM.at220 | exact gM.at221 | exact gM.at222 | exact gM.at223 | exact gM.at224 | exact gM.at225) rfl (gM.r216) (by decide) ?_
        refine gx_iload_n (i := 2) hC dX7_burns_21 rfl rfl ?_
        refine gx_iconst (v := nI 2) hC dX7_burns_22 ic_2n ?_
        refine gx_iadd hC dX7_burns_23 ?_
        rw [nI_add]
        refine gx_iald hC dX7_burns_24 (by first | exact gM.at215 | exact gM.at216 | exact gM.at217 | exact gM.at218 | exact gM.at219 | exact gM.at220 | exact gM.at221 | exact gM.at222 | exact gM.at223 | exact gM.at224 | exact gM.at225) (by exact vpn (by omega) (by decide)) (pRn (by omega)) ?_
        refine gx_if_ne (tgt := 131) hC dX7_burns_25 (by decide) (fun c_25 => ?_) (fun c_25 => ?_)
        · refine gx_iinc (i := 1) (L' := [_, _, _, _]) hC dX7_burns_131 rfl (ii_1 _) (Nat.le_of_ble_eq_true rfl) rfl (fun u h9 => by first | exact Or.inl rfl | (cases h9; done) | (right; cases h9; first | rfl | exact isR_cat aref_isR | exact isR_cat kv_isR)) ?_
          refine gx_goto (tgt := 2) hC dX7_burns_134 (by decide) ?_
          have h9 := ih (a + 1) (some (.int (nI (14 + 7 * a)))) u3 (by omega) (by omega)
          rw [mBs, mB1] at h9
          rw [if_neg c_25] at h9
          exact h9
        · refine gx_aload_n (i := 0) hC dX7_burns_28 rfl rfl (by first | exact Or.inr ⟨_, rfl⟩ | exact Or.inl rfl | exact kv_isR | exact aref_isR) ?_
          refine gx_iload_n (i := 1) hC dX7_burns_29 rfl rfl ?_
          refine gx_aload_n (i := 0) hC dX7_burns_30 rfl rfl (by first | exact Or.inr ⟨_, rfl⟩ | exact Or.inl rfl | exact kv_isR | exact aref_isR) ?_
          refine gx_getR hC dX7_burns_31 fl_X7_7 (by first | exact gM.at215 | exact gM.at216 | exact gM.at217 | exact gM.at218 | exact gM.at219 | exact gM.at220 | exact gM.at221 | exact gM.at222 | exact gM.at223 | exact gM.at224 | exact gM.at225) rfl (gM.r216) (by decide) ?_
          refine gx_iload_n (i := 2) hC dX7_burns_34 rfl rfl ?_
          refine gx_iconst (v := nI 3) hC dX7_burns_35 ic_3n ?_
          refine gx_iadd hC dX7_burns_36 ?_
          rw [nI_add]
          refine gx_iald hC dX7_burns_37 (by first | exact gM.at215 | exact gM.at216 | exact gM.at217 | exact gM.at218 | exact gM.at219 | exact gM.at220 | exact gM.at221 | exact gM.at222 | exact gM.at223 | exact gM.at224 | exact gM.at225) (by exact vpn (by omega) (by decide)) (pRn (by omega)) ?_
          refine gx_callV1 hC dX7_burns_38 (c_X7_burn _ _ gM (hW.bs a) hR3 (by omega) _) kY_X7_burn kV_X7_burn ml_X7_91 (by first | exact gM.at215 | exact gM.at216 | exact gM.at217 | exact gM.at218 | exact gM.at219 | exact gM.at220 | exact gM.at221 | exact gM.at222 | exact gM.at223 | exact gM.at224 | exact gM.at225) rfl (by decide) rfl rfl rfl (by first | exact Nat.le_of_ble_eq_true rfl | (simp [Value.category, isR_cat kv_isR, isR_cat aref_isR]; done)) (Nat.le_refl _) (Nat.le_refl _) ?_
          refine gx_istore_n (i := 3) (L' := [_, _, _, _]) hC dX7_burns_41 rfl (Nat.le_of_ble_eq_true rfl) rfl (fun u h9 => by first | exact Or.inl rfl | (cases h9; done) | (right; cases h9; first | rfl | exact isR_cat aref_isR | exact isR_cat kv_isR)) ?_
          refine gx_iload_n (i := 3) hC dX7_burns_42 rfl rfl ?_
          refine gx_aload_n (i := 0) hC dX7_burns_43 rfl rfl (by first | exact Or.inr ⟨_, rfl⟩ | exact Or.inl rfl | exact kv_isR | exact aref_isR) ?_
          refine gx_getR hC dX7_burns_44 fl_X7_7 (by first | exact gM.at215 | exact gM.at216 | exact gM.at217 | exact gM.at218 | exact gM.at219 | exact gM.at220 | exact gM.at221 | exact gM.at222 | exact gM.at223 | exact gM.at224 | exact gM.at225) rfl (gM.r216) (by decide) ?_
          refine gx_iload_n (i := 2) hC dX7_burns_47 rfl rfl ?_
          refine gx_iconst (v := nI 1) hC dX7_burns_48 ic_1n ?_
          refine gx_iadd hC dX7_burns_49 ?_
          rw [nI_add]
          refine gx_iald hC dX7_burns_50 (by first | exact gM.at215 | exact gM.at216 | exact gM.at217 | exact gM.at218 | exact gM.at219 | exact gM.at220 | exact gM.at221 | exact gM.at222 | exact gM.at223 | exact gM.at224 | exact gM.at225) (by exact vpn (by omega) (by decide)) (pRn (by omega)) ?_
          refine gx_icmp_ge (tgt := 58) hC dX7_burns_51 (by decide) (fun c_51 => ?_) (fun c_51 => ?_)
          · refine gx_aload_n (i := 0) hC dX7_burns_58 rfl rfl (by first | exact Or.inr ⟨_, rfl⟩ | exact Or.inl rfl | exact kv_isR | exact aref_isR) ?_
            refine gx_getR hC dX7_burns_59 fl_X7_7 (by first | exact gM.at215 | exact gM.at216 | exact gM.at217 | exact gM.at218 | exact gM.at219 | exact gM.at220 | exact gM.at221 | exact gM.at222 | exact gM.at223 | exact gM.at224 | exact gM.at225) rfl (gM.r216) (by decide) ?_
            refine gx_iload_n (i := 2) hC dX7_burns_62 rfl rfl ?_
            refine gx_iconst (v := nI 1) hC dX7_burns_63 ic_1n ?_
            refine gx_iadd hC dX7_burns_64 ?_
            rw [nI_add]
            refine gx_iald hC dX7_burns_65 (by first | exact gM.at215 | exact gM.at216 | exact gM.at217 | exact gM.at218 | exact gM.at219 | exact gM.at220 | exact gM.at221 | exact gM.at222 | exact gM.at223 | exact gM.at224 | exact gM.at225) (by exact vpn (by omega) (by decide)) (pRn (by omega)) ?_
            refine gx_istore_n (i := 3) (L' := [_, _, _, _]) hC dX7_burns_66 rfl (Nat.le_of_ble_eq_true rfl) rfl (fun u h9 => by first | exact Or.inl rfl | (cases h9; done) | (right; cases h9; first | rfl | exact isR_cat aref_isR | exact isR_cat kv_isR)) ?_
            refine gx_aload_n (i := 0) hC dX7_burns_67 rfl rfl (by first | exact Or.inr ⟨_, rfl⟩ | exact Or.inl rfl | exact kv_isR | exact aref_isR) ?_
            refine gx_getR hC dX7_burns_68 fl_X7_7 (by first | exact gM.at215 | exact gM.at216 | exact gM.at217 | exact gM.at218 | exact gM.at219 | exact gM.at220 | exact gM.at221 | exact gM.at222 | exact gM.at223 | exact gM.at224 | exact gM.at225) rfl (gM.r216) (by decide) ?_
            refine gx_iload_n (i := 2) hC dX7_burns_71 rfl rfl ?_
            refine gx_iconst (v := nI 1) hC dX7_burns_72 ic_1n ?_
            refine gx_iadd hC dX7_burns_73 ?_
            rw [nI_add]
            refine gx_dup2 hC dX7_burns_74 rfl rfl ?_
            refine gx_iald hC dX7_burns_75 (by first | exact gM.at215 | exact gM.at216 | exact gM.at217 | exact gM.at218 | exact gM.at219 | exact gM.at220 | exact gM.at221 | exact gM.at222 | exact gM.at223 | exact gM.at224 | exact gM.at225) (by exact vpn (by omega) (by decide)) (pRn (by omega)) ?_
            refine gx_iload_n (i := 3) hC dX7_burns_76 rfl rfl ?_
            refine gx_isub hC dX7_burns_77 ?_
            refine gx_iastM hC dX7_burns_78 (by first | exact gM.at215 | exact gM.at216 | exact gM.at217 | exact gM.at218 | exact gM.at219 | exact gM.at220 | exact gM.at221 | exact gM.at222 | exact gM.at223 | exact gM.at224 | exact gM.at225) (by exact vpn (by omega) (by decide)) (up_Rn (by omega)) ?_
            refine gx_aload_n (i := 0) hC dX7_burns_79 rfl rfl (by first | exact Or.inr ⟨_, rfl⟩ | exact Or.inl rfl | exact kv_isR | exact aref_isR) ?_
            refine gx_getR hC dX7_burns_80 fl_X7_7 (by first | exact gM.at215 | exact gM.at216 | exact gM.at217 | exact gM.at218 | exact gM.at219 | exact gM.at220 | exact gM.at221 | exact gM.at222 | exact gM.at223 | exact gM.at224 | exact gM.at225) rfl (gM.r216) (by decide) ?_
            refine gx_bipush (v := nI 10) hC dX7_burns_83 bp_10n ?_
            refine gx_dup2 hC dX7_burns_85 rfl rfl ?_
            refine gx_iald hC dX7_burns_86 (by first | exact gM.at215 | exact gM.at216 | exact gM.at217 | exact gM.at218 | exact gM.at219 | exact gM.at220 | exact gM.at221 | exact gM.at222 | exact gM.at223 | exact gM.at224 | exact gM.at225) (by exact vpn (by omega) (by decide)) (pRn (by omega)) ?_
            refine gx_iload_n (i := 3) hC dX7_burns_87 rfl rfl ?_
            refine gx_iadd hC dX7_burns_88 ?_
            refine gx_iastM hC dX7_burns_89 (by first | exact gM.at215 | exact gM.at216 | exact gM.at217 | exact gM.at218 | exact gM.at219 | exact gM.at220 | exact gM.at221 | exact gM.at222 | exact gM.at223 | exact gM.at224 | exact gM.at225) (by exact vpn (by omega) (by decide)) (up_Rn (by omega)) ?_
            refine gx_aload_n (i := 0) hC dX7_burns_90 rfl rfl (by first | exact Or.inr ⟨_, rfl⟩ | exact Or.inl rfl | exact kv_isR | exact aref_isR) ?_
            refine gx_getR hC dX7_burns_91 fl_X7_7 (by first | exact gM.at215 | exact gM.at216 | exact gM.at217 | exact gM.at218 | exact gM.at219 | exact gM.at220 | exact gM.at221 | exact gM.at222 | exact gM.at223 | exact gM.at224 | exact gM.at225) rfl (gM.r216) (by decide) ?_
            refine gx_iload_n (i := 2) hC dX7_burns_94 rfl rfl ?_
            refine gx_iconst (v := nI 4) hC dX7_burns_95 ic_4n ?_
            refine gx_iadd hC dX7_burns_96 ?_
            rw [nI_add]
            refine gx_aload_n (i := 0) hC dX7_burns_97 rfl rfl (by first | exact Or.inr ⟨_, rfl⟩ | exact Or.inl rfl | exact kv_isR | exact aref_isR) ?_
            refine gx_getR hC dX7_burns_98 fl_X7_7 (by first | exact gM.at215 | exact gM.at216 | exact gM.at217 | exact gM.at218 | exact gM.at219 | exact gM.at220 | exact gM.at221 | exact gM.at222 | exact gM.at223 | exact gM.at224 | exact gM.at225) rfl (gM.r216) (by decide) ?_
            refine gx_iload_n (i := 2) hC dX7_burns_101 rfl rfl ?_
            refine gx_iconst (v := nI 4) hC dX7_burns_102 ic_4n ?_
            refine gx_iadd hC dX7_burns_103 ?_
            rw [nI_add]
            refine gx_iald hC dX7_burns_104 (by first | exact gM.at215 | exact gM.at216 | exact gM.at217 | exact gM.at218 | exact gM.at219 | exact gM.at220 | exact gM.at221 | exact gM.at222 | exact gM.at223 | exact gM.at224 | exact gM.at225) (by exact vpn (by omega) (by decide)) (pRn (by omega)) ?_
            refine gx_iconst (v := 1) hC dX7_burns_105 ic_1 ?_
            refine gx_iadd hC dX7_burns_106 ?_
            refine gx_aload_n (i := 0) hC dX7_burns_107 rfl rfl (by first | exact Or.inr ⟨_, rfl⟩ | exact Or.inl rfl | exact kv_isR | exact aref_isR) ?_
            refine gx_getR hC dX7_burns_108 fl_X7_7 (by first | exact gM.at215 | exact gM.at216 | exact gM.at217 | exact gM.at218 | exact gM.at219 | exact gM.at220 | exact gM.at221 | exact gM.at222 | exact gM.at223 | exact gM.at224 | exact gM.at225) rfl (gM.r216) (by decide) ?_
            refine gx_iconst (v := nI 2) hC dX7_burns_111 ic_2n ?_
            refine gx_iald hC dX7_burns_112 (by first | exact gM.at215 | exact gM.at216 | exact gM.at217 | exact gM.at218 | exact gM.at219 | exact gM.at220 | exact gM.at221 | exact gM.at222 | exact gM.at223 | exact gM.at224 | exact gM.at225) (by exact vpn (by omega) (by decide)) (pRn (by omega)) ?_
            refine gx_icmp_ne (tgt := 120) hC dX7_burns_113 (by decide) (fun c_113 => ?_) (fun c_113 => ?_)
            · refine gx_aload_n (i := 0) hC dX7_burns_120 rfl rfl (by first | exact Or.inr ⟨_, rfl⟩ | exact Or.inl rfl | exact kv_isR | exact aref_isR) ?_
              refine gx_getR hC dX7_burns_121 fl_X7_7 (by first | exact gM.at215 | exact gM.at216 | exact gM.at217 | exact gM.at218 | exact gM.at219 | exact gM.at220 | exact gM.at221 | exact gM.at222 | exact gM.at223 | exact gM.at224 | exact gM.at225) rfl (gM.r216) (by decide) ?_
              refine gx_iload_n (i := 2) hC dX7_burns_124 rfl rfl ?_
              refine gx_iconst (v := nI 4) hC dX7_burns_125 ic_4n ?_
              refine gx_iadd hC dX7_burns_126 ?_
              rw [nI_add]
              refine gx_iald hC dX7_burns_127 (by first | exact gM.at215 | exact gM.at216 | exact gM.at217 | exact gM.at218 | exact gM.at219 | exact gM.at220 | exact gM.at221 | exact gM.at222 | exact gM.at223 | exact gM.at224 | exact gM.at225) (by exact vpn (by omega) (by decide)) (pRn (by omega)) ?_
              refine gx_iconst (v := 1) hC dX7_burns_128 ic_1 ?_
              refine gx_iadd hC dX7_burns_129 ?_
              refine gx_iastM hC dX7_burns_130 (by first | exact gM.at215 | exact gM.at216 | exact gM.at217 | exact gM.at218 | exact gM.at219 | exact gM.at220 | exact gM.at221 | exact gM.at222 | exact gM.at223 | exact gM.at224 | exact gM.at225) (by exact vpn (by omega) (by decide)) (up_Rn (by omega)) ?_
              refine gx_iinc (i := 1) (L' := [_, _, _, _]) hC dX7_burns_131 rfl (ii_1 _) (Nat.le_of_ble_eq_true rfl) rfl (fun u h9 => by first | exact Or.inl rfl | (cases h9; done) | (right; cases h9; first | rfl | exact isR_cat aref_isR | exact isR_cat kv_isR)) ?_
              refine gx_goto (tgt := 2) hC dX7_burns_134 (by decide) ?_
              have h9 := ih (a + 1) (some (.int (nI (14 + 7 * a)))) (some (.int (mBs v a (14 + 7 * a + 1)))) (by omega) (by omega)
              rw [mBs, mB1] at h9
              rw [if_pos c_25] at h9
              simp only at h9
              rw [if_neg (Int32.not_lt.mpr c_51)] at h9
              rw [if_neg c_113] at h9
              exact h9
            · refine gx_iconst (v := 0) hC dX7_burns_116 ic_0 ?_
              refine gx_goto (tgt := 130) hC dX7_burns_117 (by decide) ?_
              refine gx_iastM hC dX7_burns_130 (by first | exact gM.at215 | exact gM.at216 | exact gM.at217 | exact gM.at218 | exact gM.at219 | exact gM.at220 | exact gM.at221 | exact gM.at222 | exact gM.at223 | exact gM.at224 | exact gM.at225) (by exact vpn (by omega) (by decide)) (up_Rn (by omega)) ?_
              refine gx_iinc (i := 1) (L' := [_, _, _, _]) hC dX7_burns_131 rfl (ii_1 _) (Nat.le_of_ble_eq_true rfl) rfl (fun u h9 => by first | exact Or.inl rfl | (cases h9; done) | (right; cases h9; first | rfl | exact isR_cat aref_isR | exact isR_cat kv_isR)) ?_
              refine gx_goto (tgt := 2) hC dX7_burns_134 (by decide) ?_
              have h9 := ih (a + 1) (some (.int (nI (14 + 7 * a)))) (some (.int (mBs v a (14 + 7 * a + 1)))) (by omega) (by omega)
              rw [mBs, mB1] at h9
              rw [if_pos c_25] at h9
              simp only at h9
              rw [if_neg (Int32.not_lt.mpr c_51)] at h9
              rw [if_pos c_113] at h9
              exact h9
          · refine gx_iload_n (i := 3) hC dX7_burns_54 rfl rfl ?_
            refine gx_goto (tgt := 66) hC dX7_burns_55 (by decide) ?_
            refine gx_istore_n (i := 3) (L' := [_, _, _, _]) hC dX7_burns_66 rfl (Nat.le_of_ble_eq_true rfl) rfl (fun u h9 => by first | exact Or.inl rfl | (cases h9; done) | (right; cases h9; first | rfl | exact isR_cat aref_isR | exact isR_cat kv_isR)) ?_
            refine gx_aload_n (i := 0) hC dX7_burns_67 rfl rfl (by first | exact Or.inr ⟨_, rfl⟩ | exact Or.inl rfl | exact kv_isR | exact aref_isR) ?_
            refine gx_getR hC dX7_burns_68 fl_X7_7 (by first | exact gM.at215 | exact gM.at216 | exact gM.at217 | exact gM.at218 | exact gM.at219 | exact gM.at220 | exact gM.at221 | exact gM.at222 | exact gM.at223 | exact gM.at224 | exact gM.at225) rfl (gM.r216) (by decide) ?_
            refine gx_iload_n (i := 2) hC dX7_burns_71 rfl rfl ?_
            refine gx_iconst (v := nI 1) hC dX7_burns_72 ic_1n ?_
            refine gx_iadd hC dX7_burns_73 ?_
            rw [nI_add]
            refine gx_dup2 hC dX7_burns_74 rfl rfl ?_
            refine gx_iald hC dX7_burns_75 (by first | exact gM.at215 | exact gM.at216 | exact gM.at217 | exact gM.at218 | exact gM.at219 | exact gM.at220 | exact gM.at221 | exact gM.at222 | exact gM.at223 | exact gM.at224 | exact gM.at225) (by exact vpn (by omega) (by decide)) (pRn (by omega)) ?_
            refine gx_iload_n (i := 3) hC dX7_burns_76 rfl rfl ?_
            refine gx_isub hC dX7_burns_77 ?_
            refine gx_iastM hC dX7_burns_78 (by first | exact gM.at215 | exact gM.at216 | exact gM.at217 | exact gM.at218 | exact gM.at219 | exact gM.at220 | exact gM.at221 | exact gM.at222 | exact gM.at223 | exact gM.at224 | exact gM.at225) (by exact vpn (by omega) (by decide)) (up_Rn (by omega)) ?_
            refine gx_aload_n (i := 0) hC dX7_burns_79 rfl rfl (by first | exact Or.inr ⟨_, rfl⟩ | exact Or.inl rfl | exact kv_isR | exact aref_isR) ?_
            refine gx_getR hC dX7_burns_80 fl_X7_7 (by first | exact gM.at215 | exact gM.at216 | exact gM.at217 | exact gM.at218 | exact gM.at219 | exact gM.at220 | exact gM.at221 | exact gM.at222 | exact gM.at223 | exact gM.at224 | exact gM.at225) rfl (gM.r216) (by decide) ?_
            refine gx_bipush (v := nI 10) hC dX7_burns_83 bp_10n ?_
            refine gx_dup2 hC dX7_burns_85 rfl rfl ?_
            refine gx_iald hC dX7_burns_86 (by first | exact gM.at215 | exact gM.at216 | exact gM.at217 | exact gM.at218 | exact gM.at219 | exact gM.at220 | exact gM.at221 | exact gM.at222 | exact gM.at223 | exact gM.at224 | exact gM.at225) (by exact vpn (by omega) (by decide)) (pRn (by omega)) ?_
            refine gx_iload_n (i := 3) hC dX7_burns_87 rfl rfl ?_
            refine gx_iadd hC dX7_burns_88 ?_
            refine gx_iastM hC dX7_burns_89 (by first | exact gM.at215 | exact gM.at216 | exact gM.at217 | exact gM.at218 | exact gM.at219 | exact gM.at220 | exact gM.at221 | exact gM.at222 | exact gM.at223 | exact gM.at224 | exact gM.at225) (by exact vpn (by omega) (by decide)) (up_Rn (by omega)) ?_
            refine gx_aload_n (i := 0) hC dX7_burns_90 rfl rfl (by first | exact Or.inr ⟨_, rfl⟩ | exact Or.inl rfl | exact kv_isR | exact aref_isR) ?_
            refine gx_getR hC dX7_burns_91 fl_X7_7 (by first | exact gM.at215 | exact gM.at216 | exact gM.at217 | exact gM.at218 | exact gM.at219 | exact gM.at220 | exact gM.at221 | exact gM.at222 | exact gM.at223 | exact gM.at224 | exact gM.at225) rfl (gM.r216) (by decide) ?_
            refine gx_iload_n (i := 2) hC dX7_burns_94 rfl rfl ?_
            refine gx_iconst (v := nI 4) hC dX7_burns_95 ic_4n ?_
            refine gx_iadd hC dX7_burns_96 ?_
            rw [nI_add]
            refine gx_aload_n (i := 0) hC dX7_burns_97 rfl rfl (by first | exact Or.inr ⟨_, rfl⟩ | exact Or.inl rfl | exact kv_isR | exact aref_isR) ?_
            refine gx_getR hC dX7_burns_98 fl_X7_7 (by first | exact gM.at215 | exact gM.at216 | exact gM.at217 | exact gM.at218 | exact gM.at219 | exact gM.at220 | exact gM.at221 | exact gM.at222 | exact gM.at223 | exact gM.at224 | exact gM.at225) rfl (gM.r216) (by decide) ?_
            refine gx_iload_n (i := 2) hC dX7_burns_101 rfl rfl ?_
            refine gx_iconst (v := nI 4) hC dX7_burns_102 ic_4n ?_
            refine gx_iadd hC dX7_burns_103 ?_
            rw [nI_add]
            refine gx_iald hC dX7_burns_104 (by first | exact gM.at215 | exact gM.at216 | exact gM.at217 | exact gM.at218 | exact gM.at219 | exact gM.at220 | exact gM.at221 | exact gM.at222 | exact gM.at223 | exact gM.at224 | exact gM.at225) (by exact vpn (by omega) (by decide)) (pRn (by omega)) ?_
            refine gx_iconst (v := 1) hC dX7_burns_105 ic_1 ?_
            refine gx_iadd hC dX7_burns_106 ?_
            refine gx_aload_n (i := 0) hC dX7_burns_107 rfl rfl (by first | exact Or.inr ⟨_, rfl⟩ | exact Or.inl rfl | exact kv_isR | exact aref_isR) ?_
            refine gx_getR hC dX7_burns_108 fl_X7_7 (by first | exact gM.at215 | exact gM.at216 | exact gM.at217 | exact gM.at218 | exact gM.at219 | exact gM.at220 | exact gM.at221 | exact gM.at222 | exact gM.at223 | exact gM.at224 | exact gM.at225) rfl (gM.r216) (by decide) ?_
            refine gx_iconst (v := nI 2) hC dX7_burns_111 ic_2n ?_
            refine gx_iald hC dX7_burns_112 (by first | exact gM.at215 | exact gM.at216 | exact gM.at217 | exact gM.at218 | exact gM.at219 | exact gM.at220 | exact gM.at221 | exact gM.at222 | exact gM.at223 | exact gM.at224 | exact gM.at225) (by exact vpn (by omega) (by decide)) (pRn (by omega)) ?_
            refine gx_icmp_ne (tgt := 120) hC dX7_burns_113 (by decide) (fun c_113 => ?_) (fun c_113 => ?_)
            · refine gx_aload_n (i := 0) hC dX7_burns_120 rfl rfl (by first | exact Or.inr ⟨_, rfl⟩ | exact Or.inl rfl | exact kv_isR | exact aref_isR) ?_
              refine gx_getR hC dX7_burns_121 fl_X7_7 (by first | exact gM.at215 | exact gM.at216 | exact gM.at217 | exact gM.at218 | exact gM.at219 | exact gM.at220 | exact gM.at221 | exact gM.at222 | exact gM.at223 | exact gM.at224 | exact gM.at225) rfl (gM.r216) (by decide) ?_
              refine gx_iload_n (i := 2) hC dX7_burns_124 rfl rfl ?_
              refine gx_iconst (v := nI 4) hC dX7_burns_125 ic_4n ?_
              refine gx_iadd hC dX7_burns_126 ?_
              rw [nI_add]
              refine gx_iald hC dX7_burns_127 (by first | exact gM.at215 | exact gM.at216 | exact gM.at217 | exact gM.at218 | exact gM.at219 | exact gM.at220 | exact gM.at221 | exact gM.at222 | exact gM.at223 | exact gM.at224 | exact gM.at225) (by exact vpn (by omega) (by decide)) (pRn (by omega)) ?_
              refine gx_iconst (v := 1) hC dX7_burns_128 ic_1 ?_
              refine gx_iadd hC dX7_burns_129 ?_
              refine gx_iastM hC dX7_burns_130 (by first | exact gM.at215 | exact gM.at216 | exact gM.at217 | exact gM.at218 | exact gM.at219 | exact gM.at220 | exact gM.at221 | exact gM.at222 | exact gM.at223 | exact gM.at224 | exact gM.at225) (by exact vpn (by omega) (by decide)) (up_Rn (by omega)) ?_
              refine gx_iinc (i := 1) (L' := [_, _, _, _]) hC dX7_burns_131 rfl (ii_1 _) (Nat.le_of_ble_eq_true rfl) rfl (fun u h9 => by first | exact Or.inl rfl | (cases h9; done) | (right; cases h9; first | rfl | exact isR_cat aref_isR | exact isR_cat kv_isR)) ?_
              refine gx_goto (tgt := 2) hC dX7_burns_134 (by decide) ?_
              have h9 := ih (a + 1) (some (.int (nI (14 + 7 * a)))) (some (.int (mBurn (mBs v a) a (mBs v a (14 + 7 * a + 3))))) (by omega) (by omega)
              rw [mBs, mB1] at h9
              rw [if_pos c_25] at h9
              simp only at h9
              rw [if_pos (Int32.not_le.mp c_51)] at h9
              rw [if_neg c_113] at h9
              exact h9
            · refine gx_iconst (v := 0) hC dX7_burns_116 ic_0 ?_
              refine gx_goto (tgt := 130) hC dX7_burns_117 (by decide) ?_
              refine gx_iastM hC dX7_burns_130 (by first | exact gM.at215 | exact gM.at216 | exact gM.at217 | exact gM.at218 | exact gM.at219 | exact gM.at220 | exact gM.at221 | exact gM.at222 | exact gM.at223 | exact gM.at224 | exact gM.at225) (by exact vpn (by omega) (by decide)) (up_Rn (by omega)) ?_
              refine gx_iinc (i := 1) (L' := [_, _, _, _]) hC dX7_burns_131 rfl (ii_1 _) (Nat.le_of_ble_eq_true rfl) rfl (fun u h9 => by first | exact Or.inl rfl | (cases h9; done) | (right; cases h9; first | rfl | exact isR_cat aref_isR | exact isR_cat kv_isR)) ?_
              refine gx_goto (tgt := 2) hC dX7_burns_134 (by decide) ?_
              have h9 := ih (a + 1) (some (.int (nI (14 + 7 * a)))) (some (.int (mBurn (mBs v a) a (mBs v a (14 + 7 * a + 3))))) (by omega) (by omega)
              rw [mBs, mB1] at h9
              rw [if_pos c_25] at h9
              simp only at h9
              rw [if_pos (Int32.not_le.mp c_51)] at h9
              rw [if_pos c_113] at h9
              exact h9
  exact loop_2 (c + 1) 0 none none (by omega) (by omega)
