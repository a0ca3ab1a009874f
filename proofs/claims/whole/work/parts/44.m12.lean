/-! the model: strips carried out, the checksum -/
def mCo (v : Nat → Int32) (lv c : Nat) (t : Nat → Int32) : Bool × (Nat → Int32) × Nat :=
  if t 0 = 0 then (if mEw v (t 1) (t 2) (t 3) < 0 then (false, v, c) else if 0 < mRf v c (t 1) (t 2) (t 3) then (false, upd v 13 (mRf v c (t 1) (t 2) (t 3)), c)
    else (true, mEn (upd v 13 (mRf v c (t 1) (t 2) (t 3))) c (t 1) (t 2) (t 3), c + 1))
  else if t 0 = 1 then (if mCr v (t 1) = true then (if mCw v (t 1).toNatClampNeg < 0 then (false, v, c) else (true, upd v (14 + 7 * (t 1).toNatClampNeg + 5) 1, c)) else (false, v, c))
  else if t 0 = 2 then (true, mGo v lv c (t 1).toNatClampNeg, c)
  else (true, upd v 5 (if t 1 = 1 then 1 else 0), c)
theorem mEn_13 {v : Nat → Int32} {c : Nat} {x fu y : Int32} : mEn v c x fu y 13 = 0 := by unfold mEn; exact upd_s
theorem mCr_ok {v : Nat → Int32} {lv c : Nat} {x : Int32} (h : MW v lv c) (hx : mCr v x = true) : ∃ j, j < c ∧ x = nI j := by
  have hc := h.c20
  unfold mCr bIn at hx
  rw [h.ct] at hx
  have hx := of_decide_eq_true hx
  have h1 := Int32.le_iff_toInt_le.mp hx.1
  have h2 := Int32.le_iff_toInt_le.mp hx.2
  rw [Int32.toInt_sub, nI_toInt (by omega)] at h2
  have e0 : (0 : Int32).toInt = 0 := by decide
  have e1 : (1 : Int32).toInt = 1 := by decide
  rw [e1, Int.bmod_eq_of_le (by omega) (by omega)] at h2
  rw [e0] at h1
  refine ⟨x.toInt.toNat, by omega, Int32.toInt_inj.mp ?_⟩
  rw [nI_toInt (by omega)]
  omega
theorem MW.co {v : Nat → Int32} {lv c : Nat} {t : Nat → Int32} (h : MW v lv c) : MW (mCo v lv c t).2.1 lv (mCo v lv c t).2.2 := by
  unfold mCo
  split
  · split
    · exact h
    · next hw =>
      split
      · exact h.up (by omega) (by omega)
      · have h0 := mEw_ok hw
        have hc := h.c20
        exact (h.up (by omega) (by omega)).en (Nat.lt_of_le_of_ne hc (fun e => h0.2.2.2 (by rw [h.ct, e]; rfl))) (bIn_hk h0.1)
  · split
    · split
      · split
        · exact h
        · exact h.up (by omega) (by omega)
      · exact h
    · split
      · exact h.go _
      · exact h.up (by omega) (by omega)
set_option maxHeartbeats 4000000 in
set_option maxRecDepth 20000 in
theorem c_X7_carriesOut (l : Launch) (z : hZt) {n : Nat} {M : hMem} {R : hRef} (gM : gMd n R) {v : Nat → Int32} {lv c : Nat} (hW : MW v lv c) (hR3 : CR M) (hl1 : 1 ≤ lv) {t : Nat → Int32} (ht : M 222 = t) (h2 : t 0 = 2 → ∃ m, t 1 = nI m ∧ m < 2 ^ 31) : hCt l z m_X7_carriesOut [.ref (z.1 + 215)] n (putRow M 216 v) R n (some (.int (b2 (mCo v lv c t).1))) (putRow M 216 (mCo v lv c t).2.1) R := by
  refine hs_start [some (.ref (z.1 + 215)), none] (by decide +kernel) rfl (by intro u hu; simp at hu; subst hu <;> first | rfl | exact isR_cat kv_isR | exact isR_cat aref_isR) (Nat.le_of_ble_eq_true rfl) (Nat.le_refl _) (fun X hlX hN hC hQ => ?_)
  dsimp only at hC hQ
  have hc20 := hW.c20
  have hl16 := hW.l16
  refine gx_iconst (v := 0) hC dX7_carriesOut_0 ic_0 ?_
  refine gx_istore_n (i := 1) (L' := [_, _]) hC dX7_carriesOut_1 rfl (Nat.le_of_ble_eq_true rfl) rfl (fun u h9 => by first | exact Or.inl rfl | (cases h9; done) | (right; cases h9; first | rfl | exact isR_cat aref_isR | exact isR_cat kv_isR)) ?_
  refine gx_aload_n (i := 0) hC dX7_carriesOut_2 rfl rfl (by first | exact Or.inr ⟨_, rfl⟩ | exact Or.inl rfl | exact kv_isR | exact aref_isR) ?_
  refine gx_getR hC dX7_carriesOut_3 fl_X7_29 (by first | exact gM.at215 | exact gM.at216 | exact gM.at217 | exact gM.at218 | exact gM.at219 | exact gM.at220 | exact gM.at221 | exact gM.at222 | exact gM.at223 | exact gM.at224 | exact gM.at225) rfl (gM.r222) (by decide) ?_
  refine gx_iconst (v := nI 0) hC dX7_carriesOut_6 ic_0n ?_
  refine gx_iald hC dX7_carriesOut_7 (by first | exact gM.at215 | exact gM.at216 | exact gM.at217 | exact gM.at218 | exact gM.at219 | exact gM.at220 | exact gM.at221 | exact gM.at222 | exact gM.at223 | exact gM.at224 | exact gM.at225) (by exact vpn (by omega) (by decide)) ((pRo (by decide)).trans ((congrFun ht _).trans (congrArg t (nI_clamp (by decide))))) ?_
  refine gx_table hC dX7_carriesOut_8 (by decide) (fun c_8 tg ht2 => ?_) (fun j f hf hj tg ht2 => ?_) (by decide)
  · obtain rfl : tg = 192 := by omega
    have q0 : ¬ t 0 = 0 := by
      intro e
      rw [e] at c_8
      revert c_8
      decide
    have q1 : ¬ t 0 = 1 := by
      intro e
      rw [e] at c_8
      revert c_8
      decide
    have q2 : ¬ t 0 = 2 := by
      intro e
      rw [e] at c_8
      revert c_8
      decide
    refine gx_aload_n (i := 0) hC dX7_carriesOut_192 rfl rfl (by first | exact Or.inr ⟨_, rfl⟩ | exact Or.inl rfl | exact kv_isR | exact aref_isR) ?_
    refine gx_aload_n (i := 0) hC dX7_carriesOut_193 rfl rfl (by first | exact Or.inr ⟨_, rfl⟩ | exact Or.inl rfl | exact kv_isR | exact aref_isR) ?_
    refine gx_getR hC dX7_carriesOut_194 fl_X7_29 (by first | exact gM.at215 | exact gM.at216 | exact gM.at217 | exact gM.at218 | exact gM.at219 | exact gM.at220 | exact gM.at221 | exact gM.at222 | exact gM.at223 | exact gM.at224 | exact gM.at225) rfl (gM.r222) (by decide) ?_
    refine gx_iconst (v := nI 1) hC dX7_carriesOut_197 ic_1n ?_
    refine gx_iald hC dX7_carriesOut_198 (by first | exact gM.at215 | exact gM.at216 | exact gM.at217 | exact gM.at218 | exact gM.at219 | exact gM.at220 | exact gM.at221 | exact gM.at222 | exact gM.at223 | exact gM.at224 | exact gM.at225) (by exact vpn (by omega) (by decide)) ((pRo (by decide)).trans ((congrFun ht _).trans (congrArg t (nI_clamp (by decide))))) ?_
    refine gx_iconst (v := 1) hC dX7_carriesOut_199 ic_1 ?_
    refine gx_icmp_ne (tgt := 207) hC dX7_carriesOut_200 (by decide) (fun c_200 => ?_) (fun c_200 => ?_)
    · refine gx_iconst (v := 0) hC dX7_carriesOut_207 ic_0 ?_
      refine gx_callV1 hC dX7_carriesOut_208 (c_X7_opens _ _ gM (by first | exact Or.inl rfl | exact Or.inr rfl)) kY_X7_opens kV_X7_opens ml_X7_60 (by first | exact gM.at215 | exact gM.at216 | exact gM.at217 | exact gM.at218 | exact gM.at219 | exact gM.at220 | exact gM.at221 | exact gM.at222 | exact gM.at223 | exact gM.at224 | exact gM.at225) rfl (by decide) rfl rfl rfl (by first | exact Nat.le_of_ble_eq_true rfl | (simp [Value.category, isR_cat kv_isR, isR_cat aref_isR]; done)) (Nat.le_refl _) (Nat.le_refl _) ?_
      refine gx_istore_n (i := 1) (L' := [_, _]) hC dX7_carriesOut_211 rfl (Nat.le_of_ble_eq_true rfl) rfl (fun u h9 => by first | exact Or.inl rfl | (cases h9; done) | (right; cases h9; first | rfl | exact isR_cat aref_isR | exact isR_cat kv_isR)) ?_
      refine gx_iconst (v := 1) hC dX7_carriesOut_212 ic_1 ?_
      exact gx_zret hC hQ dX7_carriesOut_213 (by first | exact Or.inl rfl | exact Or.inr rfl) ((by unfold mCo; rw [if_neg q0, if_neg q1, if_neg q2, if_neg c_200]; rfl)) ((by unfold mCo; rw [if_neg q0, if_neg q1, if_neg q2, if_neg c_200])) rfl
    · refine gx_iconst (v := 1) hC dX7_carriesOut_203 ic_1 ?_
      refine gx_goto (tgt := 208) hC dX7_carriesOut_204 (by decide) ?_
      refine gx_callV1 hC dX7_carriesOut_208 (c_X7_opens _ _ gM (by first | exact Or.inl rfl | exact Or.inr rfl)) kY_X7_opens kV_X7_opens ml_X7_60 (by first | exact gM.at215 | exact gM.at216 | exact gM.at217 | exact gM.at218 | exact gM.at219 | exact gM.at220 | exact gM.at221 | exact gM.at222 | exact gM.at223 | exact gM.at224 | exact gM.at225) rfl (by decide) rfl rfl rfl (by first | exact Nat.le_of_ble_eq_true rfl | (simp [Value.category, isR_cat kv_isR, isR_cat aref_isR]; done)) (Nat.le_refl _) (Nat.le_refl _) ?_
      refine gx_istore_n (i := 1) (L' := [_, _]) hC dX7_carriesOut_211 rfl (Nat.le_of_ble_eq_true rfl) rfl (fun u h9 => by first | exact Or.inl rfl | (cases h9; done) | (right; cases h9; first | rfl | exact isR_cat aref_isR | exact isR_cat kv_isR)) ?_
      refine gx_iconst (v := 1) hC dX7_carriesOut_212 ic_1 ?_
      exact gx_zret hC hQ dX7_carriesOut_213 (by first | exact Or.inl rfl | exact Or.inr rfl) ((by unfold mCo; rw [if_neg q0, if_neg q1, if_neg q2, if_pos c_200]; rfl)) ((by unfold mCo; rw [if_neg q0, if_neg q1, if_neg q2, if_pos c_200])) rfl
  · match j, hf with
    | 0, hf =>
      obtain rfl : tg = 36 := by simp at hf; omega
      have q0 : t 0 = 0 := x_of (k := 0) (by rw [hj]; rfl) (by decide)
      refine gx_aload_n (i := 0) hC dX7_carriesOut_36 rfl rfl (by first | exact Or.inr ⟨_, rfl⟩ | exact Or.inl rfl | exact kv_isR | exact aref_isR) ?_
      refine gx_aload_n (i := 0) hC dX7_carriesOut_37 rfl rfl (by first | exact Or.inr ⟨_, rfl⟩ | exact Or.inl rfl | exact kv_isR | exact aref_isR) ?_
      refine gx_getR hC dX7_carriesOut_38 fl_X7_29 (by first | exact gM.at215 | exact gM.at216 | exact gM.at217 | exact gM.at218 | exact gM.at219 | exact gM.at220 | exact gM.at221 | exact gM.at222 | exact gM.at223 | exact gM.at224 | exact gM.at225) rfl (gM.r222) (by decide) ?_
      refine gx_iconst (v := nI 1) hC dX7_carriesOut_41 ic_1n ?_
      refine gx_iald hC dX7_carriesOut_42 (by first | exact gM.at215 | exact gM.at216 | exact gM.at217 | exact gM.at218 | exact gM.at219 | exact gM.at220 | exact gM.at221 | exact gM.at222 | exact gM.at223 | exact gM.at224 | exact gM.at225) (by exact vpn (by omega) (by decide)) ((pRo (by decide)).trans ((congrFun ht _).trans (congrArg t (nI_clamp (by decide))))) ?_
      refine gx_aload_n (i := 0) hC dX7_carriesOut_43 rfl rfl (by first | exact Or.inr ⟨_, rfl⟩ | exact Or.inl rfl | exact kv_isR | exact aref_isR) ?_
      refine gx_getR hC dX7_carriesOut_44 fl_X7_29 (by first | exact gM.at215 | exact gM.at216 | exact gM.at217 | exact gM.at218 | exact gM.at219 | exact gM.at220 | exact gM.at221 | exact gM.at222 | exact gM.at223 | exact gM.at224 | exact gM.at225) rfl (gM.r222) (by decide) ?_
      refine gx_iconst (v := nI 2) hC dX7_carriesOut_47 ic_2n ?_
      refine gx_iald hC dX7_carriesOut_48 (by first | exact gM.at215 | exact gM.at216 | exact gM.at217 | exact gM.at218 | exact gM.at219 | exact gM.at220 | exact gM.at221 | exact gM.at222 | exact gM.at223 | exact gM.at224 | exact gM.at225) (by exact vpn (by omega) (by decide)) ((pRo (by decide)).trans ((congrFun ht _).trans (congrArg t (nI_clamp (by decide))))) ?_
      refine gx_aload_n (i := 0) hC dX7_carriesOut_49 rfl rfl (by first | exact Or.inr ⟨_, rfl⟩ | exact Or.inl rfl | exact kv_isR | exact aref_isR) ?_
      refine gx_getR hC dX7_carriesOut_50 fl_X7_29 (by first | exact gM.at215 | exact gM.at216 | exact gM.at217 | exact gM.at218 | exact gM.at219 | exact gM.at220 | exact gM.at221 | exact gM.at222 | exact gM.at223 | exact gM.at224 | exact gM.at225) rfl (gM.r222) (by decide) ?_
      refine gx_iconst (v := nI 3) hC dX7_carriesOut_53 ic_3n ?_
      refine gx_iald hC dX7_carriesOut_54 (by first | exact gM.at215 | exact gM.at216 | exact gM.at217 | exact gM.at218 | exact gM.at219 | exact gM.at220 | exact gM.at221 | exact gM.at222 | exact gM.at223 | exact gM.at224 | exact gM.at225) (by exact vpn (by omega) (by decide)) ((pRo (by decide)).trans ((congrFun ht _).trans (congrArg t (nI_clamp (by decide))))) ?_
      refine gx_callV1 hC dX7_carriesOut_55 (c_X7_enterWrong _ _ gM _ _ _) kY_X7_enterWrong kV_X7_enterWrong ml_X7_75 (by first | exact gM.at215 | exact gM.at216 | exact gM.at217 | exact gM.at218 | exact gM.at219 | exact gM.at220 | exact gM.at221 | exact gM.at222 | exact gM.at223 | exact gM.at224 | exact gM.at225) rfl (by decide) rfl rfl rfl (by first | exact Nat.le_of_ble_eq_true rfl | (simp [Value.category, isR_cat kv_isR, isR_cat aref_isR]; done)) (Nat.le_refl _) (Nat.le_refl _) ?_
      refine gx_if_ge (tgt := 63) hC dX7_carriesOut_58 (by decide) (fun c_58 => ?_) (fun c_58 => ?_)
      · have h0 := mEw_ok (v := v) (Int32.not_lt.mpr c_58)
        have hx := bIn_hk h0.1
        have hc : c < 20 := Nat.lt_of_le_of_ne hc20 (fun e => h0.2.2.2 (by rw [hW.ct, e]; rfl))
        refine gx_aload_n (i := 0) hC dX7_carriesOut_63 rfl rfl (by first | exact Or.inr ⟨_, rfl⟩ | exact Or.inl rfl | exact kv_isR | exact aref_isR) ?_
        refine gx_getR hC dX7_carriesOut_64 fl_X7_7 (by first | exact gM.at215 | exact gM.at216 | exact gM.at217 | exact gM.at218 | exact gM.at219 | exact gM.at220 | exact gM.at221 | exact gM.at222 | exact gM.at223 | exact gM.at224 | exact gM.at225) rfl (gM.r216) (by decide) ?_
        refine gx_bipush (v := nI 13) hC dX7_carriesOut_67 bp_13n ?_
        refine gx_aload_n (i := 0) hC dX7_carriesOut_69 rfl rfl (by first | exact Or.inr ⟨_, rfl⟩ | exact Or.inl rfl | exact kv_isR | exact aref_isR) ?_
        refine gx_aload_n (i := 0) hC dX7_carriesOut_70 rfl rfl (by first | exact Or.inr ⟨_, rfl⟩ | exact Or.inl rfl | exact kv_isR | exact aref_isR) ?_
        refine gx_getR hC dX7_carriesOut_71 fl_X7_29 (by first | exact gM.at215 | exact gM.at216 | exact gM.at217 | exact gM.at218 | exact gM.at219 | exact gM.at220 | exact gM.at221 | exact gM.at222 | exact gM.at223 | exact gM.at224 | exact gM.at225) rfl (gM.r222) (by decide) ?_
        refine gx_iconst (v := nI 1) hC dX7_carriesOut_74 ic_1n ?_
        refine gx_iald hC dX7_carriesOut_75 (by first | exact gM.at215 | exact gM.at216 | exact gM.at217 | exact gM.at218 | exact gM.at219 | exact gM.at220 | exact gM.at221 | exact gM.at222 | exact gM.at223 | exact gM.at224 | exact gM.at225) (by exact vpn (by omega) (by decide)) ((pRo (by decide)).trans ((congrFun ht _).trans (congrArg t (nI_clamp (by decide))))) ?_
        refine gx_aload_n (i := 0) hC dX7_carriesOut_76 rfl rfl (by first | exact Or.inr ⟨_, rfl⟩ | exact Or.inl rfl | exact kv_isR | exact aref_isR) ?_
        refine gx_getR hC dX7_carriesOut_77 fl_X7_29 (by first | exact gM.at215 | exact gM.at216 | exact gM.at217 | exact gM.at218 | exact gM.at219 | exact gM.at220 | exact gM.at221 | exact gM.at222 | exact gM.at223 | exact gM.at224 | exact gM.at225) rfl (gM.r222) (by decide) ?_
        refine gx_iconst (v := nI 2) hC dX7_carriesOut_80 ic_2n ?_
        refine gx_iald hC dX7_carriesOut_81 (by first | exact gM.at215 | exact gM.at216 | exact gM.at217 | exact gM.at218 | exact gM.at219 | exact gM.at220 | exact gM.at221 | exact gM.at222 | exact gM.at223 | exact gM.at224 | exact gM.at225) (by exact vpn (by omega) (by decide)) ((pRo (by decide)).trans ((congrFun ht _).trans (congrArg t (nI_clamp (by decide))))) ?_
        refine gx_aload_n (i := 0) hC dX7_carriesOut_82 rfl rfl (by first | exact Or.inr ⟨_, rfl⟩ | exact Or.inl rfl | exact kv_isR | exact aref_isR) ?_
        refine gx_getR hC dX7_carriesOut_83 fl_X7_29 (by first | exact gM.at215 | exact gM.at216 | exact gM.at217 | exact gM.at218 | exact gM.at219 | exact gM.at220 | exact gM.at221 | exact gM.at222 | exact gM.at223 | exact gM.at224 | exact gM.at225) rfl (gM.r222) (by decide) ?_
        refine gx_iconst (v := nI 3) hC dX7_carriesOut_86 ic_3n ?_
        refine gx_iald hC dX7_carriesOut_87 (by first | exact gM.at215 | exact gM.at216 | exact gM.at217 | exact gM.at218 | exact gM.at219 | exact gM.at220 | exact gM.at221 | exact gM.at222 | exact gM.at223 | exact gM.at224 | exact gM.at225) (by exact vpn (by omega) (by decide)) ((pRo (by decide)).trans ((congrFun ht _).trans (congrArg t (nI_clamp (by decide))))) ?_
        refine gx_callV1 hC dX7_carriesOut_88 (c_X7_refusal _ _ gM hW hR3 hx _ _) kY_X7_refusal kV_X7_refusal ml_X7_79 (by first | exact gM.at215 | exact gM.at216 | exact gM.at217 | exact gM.at218 | exact gM.at219 | exact gM.at220 | exact gM.at221 | exact gM.at222 | exact gM.at223 | exact gM.at224 | exact gM.at225) rfl (by decide) rfl rfl rfl (by first | exact Nat.le_of_ble_eq_true rfl | (simp [Value.category, isR_cat kv_isR, isR_cat aref_isR]; done)) (Nat.le_refl _) (Nat.le_refl _) ?_
        refine gx_iastM hC dX7_carriesOut_91 (by first | exact gM.at215 | exact gM.at216 | exact gM.at217 | exact gM.at218 | exact gM.at219 | exact gM.at220 | exact gM.at221 | exact gM.at222 | exact gM.at223 | exact gM.at224 | exact gM.at225) (by exact vpn (by omega) (by decide)) (up_Rn (by omega)) ?_
        refine gx_aload_n (i := 0) hC dX7_carriesOut_92 rfl rfl (by first | exact Or.inr ⟨_, rfl⟩ | exact Or.inl rfl | exact kv_isR | exact aref_isR) ?_
        refine gx_getR hC dX7_carriesOut_93 fl_X7_7 (by first | exact gM.at215 | exact gM.at216 | exact gM.at217 | exact gM.at218 | exact gM.at219 | exact gM.at220 | exact gM.at221 | exact gM.at222 | exact gM.at223 | exact gM.at224 | exact gM.at225) rfl (gM.r216) (by decide) ?_
        refine gx_bipush (v := nI 13) hC dX7_carriesOut_96 bp_13n ?_
        refine gx_iald hC dX7_carriesOut_98 (by first | exact gM.at215 | exact gM.at216 | exact gM.at217 | exact gM.at218 | exact gM.at219 | exact gM.at220 | exact gM.at221 | exact gM.at222 | exact gM.at223 | exact gM.at224 | exact gM.at225) (by exact vpn (by omega) (by decide)) ((pRn (by omega)).trans upd_s) ?_
        refine gx_if_le (tgt := 106) hC dX7_carriesOut_99 (by decide) (fun c_99 => ?_) (fun c_99 => ?_)
        · refine gx_aload_n (i := 0) hC dX7_carriesOut_106 rfl rfl (by first | exact Or.inr ⟨_, rfl⟩ | exact Or.inl rfl | exact kv_isR | exact aref_isR) ?_
          refine gx_aload_n (i := 0) hC dX7_carriesOut_107 rfl rfl (by first | exact Or.inr ⟨_, rfl⟩ | exact Or.inl rfl | exact kv_isR | exact aref_isR) ?_
          refine gx_getR hC dX7_carriesOut_108 fl_X7_29 (by first | exact gM.at215 | exact gM.at216 | exact gM.at217 | exact gM.at218 | exact gM.at219 | exact gM.at220 | exact gM.at221 | exact gM.at222 | exact gM.at223 | exact gM.at224 | exact gM.at225) rfl (gM.r222) (by decide) ?_
          refine gx_iconst (v := nI 1) hC dX7_carriesOut_111 ic_1n ?_
          refine gx_iald hC dX7_carriesOut_112 (by first | exact gM.at215 | exact gM.at216 | exact gM.at217 | exact gM.at218 | exact gM.at219 | exact gM.at220 | exact gM.at221 | exact gM.at222 | exact gM.at223 | exact gM.at224 | exact gM.at225) (by exact vpn (by omega) (by decide)) ((pRo (by decide)).trans ((congrFun ht _).trans (congrArg t (nI_clamp (by decide))))) ?_
          refine gx_aload_n (i := 0) hC dX7_carriesOut_113 rfl rfl (by first | exact Or.inr ⟨_, rfl⟩ | exact Or.inl rfl | exact kv_isR | exact aref_isR) ?_
          refine gx_getR hC dX7_carriesOut_114 fl_X7_29 (by first | exact gM.at215 | exact gM.at216 | exact gM.at217 | exact gM.at218 | exact gM.at219 | exact gM.at220 | exact gM.at221 | exact gM.at222 | exact gM.at223 | exact gM.at224 | exact gM.at225) rfl (gM.r222) (by decide) ?_
          refine gx_iconst (v := nI 2) hC dX7_carriesOut_117 ic_2n ?_
          refine gx_iald hC dX7_carriesOut_118 (by first | exact gM.at215 | exact gM.at216 | exact gM.at217 | exact gM.at218 | exact gM.at219 | exact gM.at220 | exact gM.at221 | exact gM.at222 | exact gM.at223 | exact gM.at224 | exact gM.at225) (by exact vpn (by omega) (by decide)) ((pRo (by decide)).trans ((congrFun ht _).trans (congrArg t (nI_clamp (by decide))))) ?_
          refine gx_aload_n (i := 0) hC dX7_carriesOut_119 rfl rfl (by first | exact Or.inr ⟨_, rfl⟩ | exact Or.inl rfl | exact kv_isR | exact aref_isR) ?_
          refine gx_getR hC dX7_carriesOut_120 fl_X7_29 (by first | exact gM.at215 | exact gM.at216 | exact gM.at217 | exact gM.at218 | exact gM.at219 | exact gM.at220 | exact gM.at221 | exact gM.at222 | exact gM.at223 | exact gM.at224 | exact gM.at225) rfl (gM.r222) (by decide) ?_
          refine gx_iconst (v := nI 3) hC dX7_carriesOut_123 ic_3n ?_
          refine gx_iald hC dX7_carriesOut_124 (by first | exact gM.at215 | exact gM.at216 | exact gM.at217 | exact gM.at218 | exact gM.at219 | exact gM.at220 | exact gM.at221 | exact gM.at222 | exact gM.at223 | exact gM.at224 | exact gM.at225) (by exact vpn (by omega) (by decide)) ((pRo (by decide)).trans ((congrFun ht _).trans (congrArg t (nI_clamp (by decide))))) ?_
          refine gx_callV1 hC dX7_carriesOut_125 (c_X7_enters _ _ gM (hW.up (by omega) (by omega)) hc _ _ _) kY_X7_enters kV_X7_enters ml_X7_82 (by first | exact gM.at215 | exact gM.at216 | exact gM.at217 | exact gM.at218 | exact gM.at219 | exact gM.at220 | exact gM.at221 | exact gM.at222 | exact gM.at223 | exact gM.at224 | exact gM.at225) rfl (by decide) rfl rfl rfl (by first | exact Nat.le_of_ble_eq_true rfl | (simp [Value.category, isR_cat kv_isR, isR_cat aref_isR]; done)) (Nat.le_refl _) (Nat.le_refl _) ?_
          refine gx_istore_n (i := 1) (L' := [_, _]) hC dX7_carriesOut_128 rfl (Nat.le_of_ble_eq_true rfl) rfl (fun u h9 => by first | exact Or.inl rfl | (cases h9; done) | (right; cases h9; first | rfl | exact isR_cat aref_isR | exact isR_cat kv_isR)) ?_
          refine gx_aload_n (i := 0) hC dX7_carriesOut_129 rfl rfl (by first | exact Or.inr ⟨_, rfl⟩ | exact Or.inl rfl | exact kv_isR | exact aref_isR) ?_
          refine gx_getR hC dX7_carriesOut_130 fl_X7_7 (by first | exact gM.at215 | exact gM.at216 | exact gM.at217 | exact gM.at218 | exact gM.at219 | exact gM.at220 | exact gM.at221 | exact gM.at222 | exact gM.at223 | exact gM.at224 | exact gM.at225) rfl (gM.r216) (by decide) ?_
          refine gx_bipush (v := nI 13) hC dX7_carriesOut_133 bp_13n ?_
          refine gx_iald hC dX7_carriesOut_135 (by first | exact gM.at215 | exact gM.at216 | exact gM.at217 | exact gM.at218 | exact gM.at219 | exact gM.at220 | exact gM.at221 | exact gM.at222 | exact gM.at223 | exact gM.at224 | exact gM.at225) (by exact vpn (by omega) (by decide)) ((pRn (by omega)).trans mEn_13) ?_
          refine gx_if_ne (tgt := 143) hC dX7_carriesOut_136 (by decide) (fun c_136 => ?_) (fun c_136 => ?_)
          · exact absurd rfl c_136
          · refine gx_iconst (v := 1) hC dX7_carriesOut_139 ic_1 ?_
            refine gx_goto (tgt := 144) hC dX7_carriesOut_140 (by decide) ?_
            exact gx_zret hC hQ dX7_carriesOut_144 (by first | exact Or.inl rfl | exact Or.inr rfl) ((by unfold mCo; rw [if_pos q0, if_neg (Int32.not_lt.mpr c_58), if_neg (Int32.not_lt.mpr c_99)]; rfl)) ((by unfold mCo; rw [if_pos q0, if_neg (Int32.not_lt.mpr c_58), if_neg (Int32.not_lt.mpr c_99)])) rfl
        · refine gx_iconst (v := 0) hC dX7_carriesOut_102 ic_0 ?_
          refine gx_goto (tgt := 128) hC dX7_carriesOut_103 (by decide) ?_
          refine gx_istore_n (i := 1) (L' := [_, _]) hC dX7_carriesOut_128 rfl (Nat.le_of_ble_eq_true rfl) rfl (fun u h9 => by first | exact Or.inl rfl | (cases h9; done) | (right; cases h9; first | rfl | exact isR_cat aref_isR | exact isR_cat kv_isR)) ?_
          refine gx_aload_n (i := 0) hC dX7_carriesOut_129 rfl rfl (by first | exact Or.inr ⟨_, rfl⟩ | exact Or.inl rfl | exact kv_isR | exact aref_isR) ?_
          refine gx_getR hC dX7_carriesOut_130 fl_X7_7 (by first | exact gM.at215 | exact gM.at216 | exact gM.at217 | exact gM.at218 | exact gM.at219 | exact gM.at220 | exact gM.at221 | exact gM.at222 | exact gM.at223 | exact gM.at224 | exact gM.at225) rfl (gM.r216) (by decide) ?_
          refine gx_bipush (v := nI 13) hC dX7_carriesOut_133 bp_13n ?_
          refine gx_iald hC dX7_carriesOut_135 (by first | exact gM.at215 | exact gM.at216 | exact gM.at217 | exact gM.at218 | exact gM.at219 | exact gM.at220 | exact gM.at221 | exact gM.at222 | exact gM.at223 | exact gM.at224 | exact gM.at225) (by exact vpn (by omega) (by decide)) ((pRn (by omega)).trans upd_s) ?_
          refine gx_if_ne (tgt := 143) hC dX7_carriesOut_136 (by decide) (fun c_136 => ?_) (fun c_136 => ?_)
          · refine gx_iconst (v := 0) hC dX7_carriesOut_143 ic_0 ?_
            exact gx_zret hC hQ dX7_carriesOut_144 (by first | exact Or.inl rfl | exact Or.inr rfl) ((by unfold mCo; rw [if_pos q0, if_neg (Int32.not_lt.mpr c_58), if_pos (Int32.not_le.mp c_99)]; rfl)) ((by unfold mCo; rw [if_pos q0, if_neg (Int32.not_lt.mpr c_58), if_pos (Int32.not_le.mp c_99)])) rfl
          · exact absurd c_136 (fun e => by rw [e] at c_99; exact c_99 (by decide))
      · refine gx_iconst (v := 0) hC dX7_carriesOut_61 ic_0 ?_
        exact gx_zret hC hQ dX7_carriesOut_62 (by first | exact Or.inl rfl | exact Or.inr rfl) ((by unfold mCo; rw [if_pos q0, if_pos (Int32.not_le.mp c_58)]; rfl)) ((by unfold mCo; rw [if_pos q0, if_pos (Int32.not_le.mp c_58)])) rfl
    | 1, hf =>
      obtain rfl : tg = 145 := by simp at hf; omega
      have q1 : t 0 = 1 := x_of (k := 1) (by rw [hj]; rfl) (by decide)
      have q0 : ¬ t 0 = 0 := by rw [q1]; decide
      by_cases hcr : mCr v (t 1) = true
      · obtain ⟨j2, hj, hjx⟩ := mCr_ok hW hcr
        refine gx_aload_n (i := 0) hC dX7_carriesOut_145 rfl rfl (by first | exact Or.inr ⟨_, rfl⟩ | exact Or.inl rfl | exact kv_isR | exact aref_isR) ?_
        refine gx_aload_n (i := 0) hC dX7_carriesOut_146 rfl rfl (by first | exact Or.inr ⟨_, rfl⟩ | exact Or.inl rfl | exact kv_isR | exact aref_isR) ?_
        refine gx_getR hC dX7_carriesOut_147 fl_X7_29 (by first | exact gM.at215 | exact gM.at216 | exact gM.at217 | exact gM.at218 | exact gM.at219 | exact gM.at220 | exact gM.at221 | exact gM.at222 | exact gM.at223 | exact gM.at224 | exact gM.at225) rfl (gM.r222) (by decide) ?_
        refine gx_iconst (v := nI 1) hC dX7_carriesOut_150 ic_1n ?_
        refine gx_iald hC dX7_carriesOut_151 (by first | exact gM.at215 | exact gM.at216 | exact gM.at217 | exact gM.at218 | exact gM.at219 | exact gM.at220 | exact gM.at221 | exact gM.at222 | exact gM.at223 | exact gM.at224 | exact gM.at225) (by exact vpn (by omega) (by decide)) ((pRo (by decide)).trans ((congrFun ht _).trans ((congrArg t (nI_clamp (by decide))).trans hjx))) ?_
        refine gx_callV1 hC dX7_carriesOut_152 (c_X7_callWrong _ _ gM hW hj) kY_X7_callWrong kV_X7_callWrong ml_X7_88 (by first | exact gM.at215 | exact gM.at216 | exact gM.at217 | exact gM.at218 | exact gM.at219 | exact gM.at220 | exact gM.at221 | exact gM.at222 | exact gM.at223 | exact gM.at224 | exact gM.at225) rfl (by decide) rfl rfl rfl (by first | exact Nat.le_of_ble_eq_true rfl | (simp [Value.category, isR_cat kv_isR, isR_cat aref_isR]; done)) (Nat.le_refl _) (Nat.le_refl _) ?_
        refine gx_if_ge (tgt := 160) hC dX7_carriesOut_155 (by decide) (fun c_155 => ?_) (fun c_155 => ?_)
        · refine gx_aload_n (i := 0) hC dX7_carriesOut_160 rfl rfl (by first | exact Or.inr ⟨_, rfl⟩ | exact Or.inl rfl | exact kv_isR | exact aref_isR) ?_
          refine gx_getR hC dX7_carriesOut_161 fl_X7_7 (by first | exact gM.at215 | exact gM.at216 | exact gM.at217 | exact gM.at218 | exact gM.at219 | exact gM.at220 | exact gM.at221 | exact gM.at222 | exact gM.at223 | exact gM.at224 | exact gM.at225) rfl (gM.r216) (by decide) ?_
          refine gx_aload_n (i := 0) hC dX7_carriesOut_164 rfl rfl (by first | exact Or.inr ⟨_, rfl⟩ | exact Or.inl rfl | exact kv_isR | exact aref_isR) ?_
          refine gx_getR hC dX7_carriesOut_165 fl_X7_29 (by first | exact gM.at215 | exact gM.at216 | exact gM.at217 | exact gM.at218 | exact gM.at219 | exact gM.at220 | exact gM.at221 | exact gM.at222 | exact gM.at223 | exact gM.at224 | exact gM.at225) rfl (gM.r222) (by decide) ?_
          refine gx_iconst (v := nI 1) hC dX7_carriesOut_168 ic_1n ?_
          refine gx_iald hC dX7_carriesOut_169 (by first | exact gM.at215 | exact gM.at216 | exact gM.at217 | exact gM.at218 | exact gM.at219 | exact gM.at220 | exact gM.at221 | exact gM.at222 | exact gM.at223 | exact gM.at224 | exact gM.at225) (by exact vpn (by omega) (by decide)) ((pRo (by decide)).trans ((congrFun ht _).trans ((congrArg t (nI_clamp (by decide))).trans hjx))) ?_
          refine gx_callS1 hC dX7_carriesOut_170 (c_X7_at _ _ _) kY_X7_at kS_X7_at ml_X7_52 (by decide) rfl rfl rfl (by first | exact Nat.le_of_ble_eq_true rfl | (simp [Value.category, isR_cat kv_isR, isR_cat aref_isR]; done)) (Nat.le_refl _) (Nat.le_refl _) ?_
          refine gx_iconst (v := nI 5) hC dX7_carriesOut_173 ic_5n ?_
          refine gx_iadd hC dX7_carriesOut_174 ?_
          rw [nI_add]
          refine gx_iconst (v := 1) hC dX7_carriesOut_175 ic_1 ?_
          refine gx_iastM hC dX7_carriesOut_176 (by first | exact gM.at215 | exact gM.at216 | exact gM.at217 | exact gM.at218 | exact gM.at219 | exact gM.at220 | exact gM.at221 | exact gM.at222 | exact gM.at223 | exact gM.at224 | exact gM.at225) (by exact vpn (by omega) (by decide)) (up_Rn (by omega)) ?_
          refine gx_iconst (v := 1) hC dX7_carriesOut_177 ic_1 ?_
          exact gx_zret hC hQ dX7_carriesOut_178 (by first | exact Or.inl rfl | exact Or.inr rfl) ((by unfold mCo; rw [if_neg q0, if_pos q1, if_pos hcr, hjx, nI_clamp (by omega), if_neg (Int32.not_lt.mpr c_155)]; rfl)) ((by unfold mCo; rw [if_neg q0, if_pos q1, if_pos hcr, hjx, nI_clamp (by omega), if_neg (Int32.not_lt.mpr c_155)])) rfl
        · refine gx_iconst (v := 0) hC dX7_carriesOut_158 ic_0 ?_
          exact gx_zret hC hQ dX7_carriesOut_159 (by first | exact Or.inl rfl | exact Or.inr rfl) ((by unfold mCo; rw [if_neg q0, if_pos q1, if_pos hcr, hjx, nI_clamp (by omega), if_pos (Int32.not_le.mp c_155)]; rfl)) ((by unfold mCo; rw [if_neg q0, if_pos q1, if_pos hcr, hjx, nI_clamp (by omega), if_pos (Int32.not_le.mp c_155)])) rfl
      · have hcf : mCr v (t 1) = false := (Bool.not_eq_true _).mp hcr
        refine gx_aload_n (i := 0) hC dX7_carriesOut_145 rfl rfl (by first | exact Or.inr ⟨_, rfl⟩ | exact Or.inl rfl | exact kv_isR | exact aref_isR) ?_
        refine gx_aload_n (i := 0) hC dX7_carriesOut_146 rfl rfl (by first | exact Or.inr ⟨_, rfl⟩ | exact Or.inl rfl | exact kv_isR | exact aref_isR) ?_
        refine gx_getR hC dX7_carriesOut_147 fl_X7_29 (by first | exact gM.at215 | exact gM.at216 | exact gM.at217 | exact gM.at218 | exact gM.at219 | exact gM.at220 | exact gM.at221 | exact gM.at222 | exact gM.at223 | exact gM.at224 | exact gM.at225) rfl (gM.r222) (by decide) ?_
        refine gx_iconst (v := nI 1) hC dX7_carriesOut_150 ic_1n ?_
        refine gx_iald hC dX7_carriesOut_151 (by first | exact gM.at215 | exact gM.at216 | exact gM.at217 | exact gM.at218 | exact gM.at219 | exact gM.at220 | exact gM.at221 | exact gM.at222 | exact gM.at223 | exact gM.at224 | exact gM.at225) (by exact vpn (by omega) (by decide)) ((pRo (by decide)).trans ((congrFun ht _).trans (congrArg t (nI_clamp (by decide))))) ?_
        refine gx_callV1 hC dX7_carriesOut_152 (c1_X7_callWrong _ _ gM hcf) kY_X7_callWrong kV_X7_callWrong ml_X7_88 (by first | exact gM.at215 | exact gM.at216 | exact gM.at217 | exact gM.at218 | exact gM.at219 | exact gM.at220 | exact gM.at221 | exact gM.at222 | exact gM.at223 | exact gM.at224 | exact gM.at225) rfl (by decide) rfl rfl rfl (by first | exact Nat.le_of_ble_eq_true rfl | (simp [Value.category, isR_cat kv_isR, isR_cat aref_isR]; done)) (Nat.le_refl _) (Nat.le_refl _) ?_
        refine gx_if_ge (tgt := 160) hC dX7_carriesOut_155 (by decide) (fun c_155 => ?_) (fun c_155 => ?_)
        · exact absurd c_155 (by decide)
        · refine gx_iconst (v := 0) hC dX7_carriesOut_158 ic_0 ?_
          exact gx_zret hC hQ dX7_carriesOut_159 (by first | exact Or.inl rfl | exact Or.inr rfl) ((by unfold mCo; rw [if_neg q0, if_pos q1, if_neg hcr]; rfl)) ((by unfold mCo; rw [if_neg q0, if_pos q1, if_neg hcr])) rfl
    | 2, hf =>
      obtain rfl : tg = 179 := by simp at hf; omega
      have q2 : t 0 = 2 := x_of (k := 2) (by rw [hj]; rfl) (by decide)
      have q0 : ¬ t 0 = 0 := by rw [q2]; decide
      have q1 : ¬ t 0 = 1 := by rw [q2]; decide
      obtain ⟨m, hm1, hm31⟩ := h2 q2
      refine gx_aload_n (i := 0) hC dX7_carriesOut_179 rfl rfl (by first | exact Or.inr ⟨_, rfl⟩ | exact Or.inl rfl | exact kv_isR | exact aref_isR) ?_
      refine gx_aload_n (i := 0) hC dX7_carriesOut_180 rfl rfl (by first | exact Or.inr ⟨_, rfl⟩ | exact Or.inl rfl | exact kv_isR | exact aref_isR) ?_
      refine gx_getR hC dX7_carriesOut_181 fl_X7_29 (by first | exact gM.at215 | exact gM.at216 | exact gM.at217 | exact gM.at218 | exact gM.at219 | exact gM.at220 | exact gM.at221 | exact gM.at222 | exact gM.at223 | exact gM.at224 | exact gM.at225) rfl (gM.r222) (by decide) ?_
      refine gx_iconst (v := nI 1) hC dX7_carriesOut_184 ic_1n ?_
      refine gx_iald hC dX7_carriesOut_185 (by first | exact gM.at215 | exact gM.at216 | exact gM.at217 | exact gM.at218 | exact gM.at219 | exact gM.at220 | exact gM.at221 | exact gM.at222 | exact gM.at223 | exact gM.at224 | exact gM.at225) (by exact vpn (by omega) (by decide)) ((pRo (by decide)).trans ((congrFun ht _).trans ((congrArg t (nI_clamp (by decide))).trans hm1))) ?_
      refine gx_callV1 hC dX7_carriesOut_186 (c_X7_minutesPass _ _ gM hW hR3 hl1 hm31) kY_X7_minutesPass kV_X7_minutesPass ml_X7_113 (by first | exact gM.at215 | exact gM.at216 | exact gM.at217 | exact gM.at218 | exact gM.at219 | exact gM.at220 | exact gM.at221 | exact gM.at222 | exact gM.at223 | exact gM.at224 | exact gM.at225) rfl (by decide) rfl rfl rfl (by first | exact Nat.le_of_ble_eq_true rfl | (simp [Value.category, isR_cat kv_isR, isR_cat aref_isR]; done)) (Nat.le_refl _) (Nat.le_refl _) ?_
      refine gx_istore_n (i := 1) (L' := [_, _]) hC dX7_carriesOut_189 rfl (Nat.le_of_ble_eq_true rfl) rfl (fun u h9 => by first | exact Or.inl rfl | (cases h9; done) | (right; cases h9; first | rfl | exact isR_cat aref_isR | exact isR_cat kv_isR)) ?_
      refine gx_iconst (v := 1) hC dX7_carriesOut_190 ic_1 ?_
      exact gx_zret hC hQ dX7_carriesOut_191 (by first | exact Or.inl rfl | exact Or.inr rfl) ((by unfold mCo; rw [if_neg q0, if_neg q1, if_pos q2, hm1, nI_clamp hm31]; rfl)) ((by unfold mCo; rw [if_neg q0, if_neg q1, if_pos q2, hm1, nI_clamp hm31])) rfl
    | q + 3, hf => simp at hf
