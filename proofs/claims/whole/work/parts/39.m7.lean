/-! the model: forecasts -/
theorem cpy_s0 {p : Nat → Int32} {v : Nat → Int32} {k : Nat} : upd (cpy p 0 v k) k (v k) = cpy p 0 v (k + 1) := by
  have h := cpy_s (p := p) (b := 0) (v := v) (k := k)
  rwa [Nat.zero_add] at h
theorem cpy_back {w p v : Nat → Int32} (h : ∀ j, 154 ≤ j → w j = v j) : cpy w 0 (cpy p 0 v 154) 154 = v := by
  funext j
  unfold cpy
  by_cases h1 : j < 154
  · rw [if_pos (by omega), if_pos (by omega)]; rfl
  · rw [if_neg (by omega)]; exact h j (by omega)
/-- beyond the row nothing changes -/
def hEq (w v : Nat → Int32) : Prop := ∀ j, 154 ≤ j → w j = v j
theorem hEq.up {w v : Nat → Int32} {k : Nat} {x : Int32} (h : hEq w v) (hk : k < 154) : hEq (upd w k x) v := fun j hj => (upd_n (by omega)).trans (h j hj)
theorem hEq.leave {w v : Nat → Int32} {a : Nat} {x : Int32} (h : hEq w v) (ha : a < 20) : hEq (mLeave w a x) v := by
  unfold mLeave
  simp only
  split
  · exact ((h.up (by omega)).up (by omega)).up (by omega)
  · exact ((h.up (by omega)).up (by omega)).up (by omega)
theorem hEq.bs {w v : Nat → Int32} (h : hEq w v) {a : Nat} (ha : a ≤ 20) : hEq (mBs w a) v := by
  induction a with
  | zero => exact h
  | succ a ih =>
    rw [mBs, mB1]
    split
    · exact (((ih (by omega)).up (by omega)).up (by omega)).up (by omega)
    · exact ih (by omega)
theorem hEq.ds {w v : Nat → Int32} (h : hEq w v) {a : Nat} (ha : a ≤ 20) : hEq (mDs w a) v := by
  induction a with
  | zero => exact h
  | succ a ih =>
    rw [mDs, mD1]
    split
    · exact (ih (by omega)).leave (by omega)
    · exact ih (by omega)
theorem hEq.ks {w v : Nat → Int32} (h : hEq w v) {c : Nat} (hc : c ≤ 20) (i : Nat) : hEq (mKs w c i) v := by
  induction i with
  | zero => exact h
  | succ i ih =>
    rw [mKs, mK1]
    split
    · next b hb =>
      have := (mOn_lt hb).1
      split
      · exact ((ih.up (by omega)).up (by omega)).up (by omega)
      · exact ih
    · exact ih
theorem hEq.ps {w v : Nat → Int32} {lv c : Nat} (h : hEq w v) (hc : c ≤ 20) : hEq (mPs w lv c) v := by
  have h2 : hEq (mB2 w c) v := ((h.bs hc).ds hc).up (by decide)
  have h3 : hEq (mV3 (mB2 w c) (mPa w c)) v := by
    unfold mV3
    split
    · next j hj => exact (h2.leave (by have := mPa_lt hj; omega)).up (by decide)
    · exact h2
  exact (h3.ks hc _).up (by decide)
theorem hEq.go {w v : Nat → Int32} {lv c : Nat} (h : hEq w v) (hc : c ≤ 20) (k : Nat) : hEq (mGo w lv c k) v := by
  induction k with
  | zero => exact h
  | succ k ih => exact ih.ps hc
theorem hEq.en {w v : Nat → Int32} {c : Nat} {x fu y : Int32} (h : hEq w v) (hc : c < 20) : hEq (mEn w c x fu y) v :=
  (((((((((h.up (by omega)).up (by omega)).up (by omega)).up (by omega)).up (by omega)).up (by omega)).up (by omega)).up (by omega)).up (by omega)).up (by omega)
theorem MW.en {v : Nat → Int32} {lv c : Nat} {x fu y : Int32} (h : MW v lv c) (hc : c < 20) (hx : hk x) : MW (mEn v c x fu y) lv (c + 1) := by
  refine ⟨⟨?_, h.l16⟩, ⟨?_, hc⟩, fun j hj => ?_⟩
  · unfold mEn; repeat rw [upd_n (by omega)]
    exact h.lv
  · unfold mEn; rw [upd_n (by omega), upd_n (by omega), upd_s]
  · unfold mEn; rw [upd_n (by omega), upd_n (by omega), upd_n (by omega), upd_n (by omega), upd_n (by omega), upd_n (by omega), upd_n (by omega), upd_n (by omega), upd_n (by omega)]
    by_cases e : j = c
    · subst e; rw [upd_s]; exact hx
    · rw [upd_n (by omega)]; exact h.kd (by omega)
set_option maxHeartbeats 4000000 in
set_option maxRecDepth 20000 in
theorem c_X7_keeps (l : Launch) (z : hZt) {n : Nat} {M : hMem} {R : hRef} (gM : gMd n R) {v : Nat → Int32} : hCt l z m_X7_keeps [.ref (z.1 + 215), .ref (z.1 + 218)] n (putRow M 216 v) R n none (putRow (putRow M 218 (cpy (M 218) 0 v 154)) 216 v) R := by
  refine hs_start [some (.ref (z.1 + 215)), some (.ref (z.1 + 218)), none] (by decide +kernel) rfl (by intro u hu; simp at hu; rcases hu with rfl | rfl <;> first | rfl | exact isR_cat kv_isR | exact isR_cat aref_isR) (Nat.le_of_ble_eq_true rfl) (Nat.le_refl _) (fun X hlX hN hC hQ => ?_)
  dsimp only at hC hQ
  refine gx_iconst (v := nI 0) hC dX7_keeps_0 ic_0n ?_
  refine gx_istore_n (i := 2) (L' := [_, _, _]) hC dX7_keeps_1 rfl (Nat.le_of_ble_eq_true rfl) rfl (fun u h9 => by first | exact Or.inl rfl | (cases h9; done) | (right; cases h9; first | rfl | exact isR_cat aref_isR | exact isR_cat kv_isR)) ?_
  have loop_2 : ∀ (k : Nat) (a : Nat), 154 - a < k → a ≤ 154 → hG z n X n (putRow (putRow M 218 (cpy (M 218) 0 v a)) 216 v) R 2 [some (.ref (z.1 + 215)), some (.ref (z.1 + 218)), some (.int (nI a))] [] := by
    intro k
    induction k with
    | zero => intros; omega
    | succ k ih =>
      intro a hk1 ha
      refine gx_iload_n (i := 2) hC dX7_keeps_2 rfl rfl ?_
      refine gx_sipush (v := nI 154) hC dX7_keeps_3 sp_154n ?_
      refine gx_icmp_ge (tgt := 24) hC dX7_keeps_6 (by decide) (fun c_6 => ?_) (fun c_6 => ?_)
      · have d_6 := cle (by omega) (by omega) c_6
        exact gx_vret hC hQ dX7_keeps_24 ((by rw [show 154 = a by omega])) rfl
      · have d_6 := cnle (by omega) (by omega) c_6
        refine gx_aload_n (i := 1) hC dX7_keeps_9 rfl rfl (by first | exact Or.inr ⟨_, rfl⟩ | exact Or.inl rfl | exact kv_isR | exact aref_isR) ?_
        refine gx_iload_n (i := 2) hC dX7_keeps_10 rfl rfl ?_
        refine gx_aload_n (i := 0) hC dX7_keeps_11 rfl rfl (by first | exact Or.inr ⟨_, rfl⟩ | exact Or.inl rfl | exact kv_isR | exact aref_isR) ?_
        refine gx_getR hC dX7_keeps_12 fl_X7_7 (by first | exact gM.at215 | exact gM.at216 | exact gM.at217 | exact gM.at218 | exact gM.at219 | exact gM.at220 | exact gM.at221 | exact gM.at222 | exact gM.at223 | exact gM.at224 | exact gM.at225) rfl (gM.r216) (by decide) ?_
        refine gx_iload_n (i := 2) hC dX7_keeps_15 rfl rfl ?_
        refine gx_iald hC dX7_keeps_16 (by first | exact gM.at215 | exact gM.at216 | exact gM.at217 | exact gM.at218 | exact gM.at219 | exact gM.at220 | exact gM.at221 | exact gM.at222 | exact gM.at223 | exact gM.at224 | exact gM.at225) (by exact vpn (by omega) (by decide)) (pRn (by omega)) ?_
        refine gx_iastM hC dX7_keeps_17 (by exact gM.at218) (by exact vpn (by omega) (by decide)) ((up_Ro (by decide)).trans (congrArg (fun t => putRow t 216 v) (up_Rn (by omega)))) ?_
        refine gx_iinc (i := 2) (L' := [_, _, _]) hC dX7_keeps_18 rfl (ii_1 _) (Nat.le_of_ble_eq_true rfl) rfl (fun u h9 => by first | exact Or.inl rfl | (cases h9; done) | (right; cases h9; first | rfl | exact isR_cat aref_isR | exact isR_cat kv_isR)) ?_
        refine gx_goto (tgt := 2) hC dX7_keeps_21 (by decide) ?_
        have h9 := ih (a + 1) (by omega) (by omega)
        rw [← cpy_s0] at h9
        exact h9
  have h8 := loop_2 155 0 (by omega) (by omega)
  rw [cpy_0, putRow_get] at h8
  exact h8
set_option maxHeartbeats 4000000 in
set_option maxRecDepth 20000 in
theorem c_X7_comesBack (l : Launch) (z : hZt) {n : Nat} {M : hMem} {R : hRef} (gM : gMd n R) {v : Nat → Int32} {s : Nat → Int32} (hs : M 218 = s) : hCt l z m_X7_comesBack [.ref (z.1 + 215)] n (putRow M 216 v) R n none (putRow M 216 (cpy v 0 s 154)) R := by
  refine hs_start [some (.ref (z.1 + 215)), none] (by decide +kernel) rfl (by intro u hu; simp at hu; subst hu <;> first | rfl | exact isR_cat kv_isR | exact isR_cat aref_isR) (Nat.le_of_ble_eq_true rfl) (Nat.le_refl _) (fun X hlX hN hC hQ => ?_)
  dsimp only at hC hQ
  refine gx_iconst (v := nI 0) hC dX7_comesBack_0 ic_0n ?_
  refine gx_istore_n (i := 1) (L' := [_, _]) hC dX7_comesBack_1 rfl (Nat.le_of_ble_eq_true rfl) rfl (fun u h9 => by first | exact Or.inl rfl | (cases h9; done) | (right; cases h9; first | rfl | exact isR_cat aref_isR | exact isR_cat kv_isR)) ?_
  have loop_2 : ∀ (k : Nat) (a : Nat), 154 - a < k → a ≤ 154 → hG z n X n (putRow M 216 (cpy v 0 s a)) R 2 [some (.ref (z.1 + 215)), some (.int (nI a))] [] := by
    intro k
    induction k with
    | zero => intros; omega
    | succ k ih =>
      intro a hk1 ha
      refine gx_iload_n (i := 1) hC dX7_comesBack_2 rfl rfl ?_
      refine gx_sipush (v := nI 154) hC dX7_comesBack_3 sp_154n ?_
      refine gx_icmp_ge (tgt := 27) hC dX7_comesBack_6 (by decide) (fun c_6 => ?_) (fun c_6 => ?_)
      · have d_6 := cle (by omega) (by omega) c_6
        exact gx_vret hC hQ dX7_comesBack_27 ((by rw [show 154 = a by omega])) rfl
      · have d_6 := cnle (by omega) (by omega) c_6
        refine gx_aload_n (i := 0) hC dX7_comesBack_9 rfl rfl (by first | exact Or.inr ⟨_, rfl⟩ | exact Or.inl rfl | exact kv_isR | exact aref_isR) ?_
        refine gx_getR hC dX7_comesBack_10 fl_X7_7 (by first | exact gM.at215 | exact gM.at216 | exact gM.at217 | exact gM.at218 | exact gM.at219 | exact gM.at220 | exact gM.at221 | exact gM.at222 | exact gM.at223 | exact gM.at224 | exact gM.at225) rfl (gM.r216) (by decide) ?_
        refine gx_iload_n (i := 1) hC dX7_comesBack_13 rfl rfl ?_
        refine gx_aload_n (i := 0) hC dX7_comesBack_14 rfl rfl (by first | exact Or.inr ⟨_, rfl⟩ | exact Or.inl rfl | exact kv_isR | exact aref_isR) ?_
        refine gx_getR hC dX7_comesBack_15 fl_X7_16 (by first | exact gM.at215 | exact gM.at216 | exact gM.at217 | exact gM.at218 | exact gM.at219 | exact gM.at220 | exact gM.at221 | exact gM.at222 | exact gM.at223 | exact gM.at224 | exact gM.at225) rfl (gM.r218) (by decide) ?_
        refine gx_iload_n (i := 1) hC dX7_comesBack_18 rfl rfl ?_
        refine gx_iald hC dX7_comesBack_19 (by first | exact gM.at215 | exact gM.at216 | exact gM.at217 | exact gM.at218 | exact gM.at219 | exact gM.at220 | exact gM.at221 | exact gM.at222 | exact gM.at223 | exact gM.at224 | exact gM.at225) (by exact vpn (by omega) (by decide)) ((pRo (by decide)).trans ((congrFun hs _).trans (congrArg s (nI_clamp (by omega))))) ?_
        refine gx_iastM hC dX7_comesBack_20 (by first | exact gM.at215 | exact gM.at216 | exact gM.at217 | exact gM.at218 | exact gM.at219 | exact gM.at220 | exact gM.at221 | exact gM.at222 | exact gM.at223 | exact gM.at224 | exact gM.at225) (by exact vpn (by omega) (by decide)) (up_Rn (by omega)) ?_
        refine gx_iinc (i := 1) (L' := [_, _]) hC dX7_comesBack_21 rfl (ii_1 _) (Nat.le_of_ble_eq_true rfl) rfl (fun u h9 => by first | exact Or.inl rfl | (cases h9; done) | (right; cases h9; first | rfl | exact isR_cat aref_isR | exact isR_cat kv_isR)) ?_
        refine gx_goto (tgt := 2) hC dX7_comesBack_24 (by decide) ?_
        have h9 := ih (a + 1) (by omega) (by omega)
        rw [← cpy_s0] at h9
        exact h9
  have h8 := loop_2 155 0 (by omega) (by omega)
  rw [cpy_0] at h8
  exact h8
theorem b_comesBack (l : Launch) (z : hZt) {n : Nat} {M : hMem} {R : hRef} (gM : gMd n R) {v w p : Nat → Int32} (hs : M 218 = cpy p 0 v 154) (h : hEq w v) : hCt l z m_X7_comesBack [.ref (z.1 + 215)] n (putRow M 216 w) R n none (putRow M 216 v) R := by
  have h9 := c_X7_comesBack l z gM (v := w) hs
  rw [cpy_back h] at h9
  exact h9
/-- how many minutes pass until that aircraft does not hold -/
def mLN (v : Nat → Int32) (lv c j : Nat) : Nat → Nat → Nat
  | 0, n => n
  | f + 1, n => if mGo v lv c n (14 + 7 * j + 2) = 0 then mLN v lv c j f (n + 1) else n
theorem mLN_le {v : Nat → Int32} {lv c j : Nat} (f n : Nat) : mLN v lv c j f n ≤ n + f := by
  induction f generalizing n with
  | zero => exact Nat.le_refl _
  | succ f ih =>
    rw [mLN]
    split
    · have := ih (n + 1); omega
    · omega
def mLm (v : Nat → Int32) (lv c j : Nat) : Int32 := if mGo v lv c (mLN v lv c j 600 0) (14 + 7 * j + 2) = 1 then nI (mLN v lv c j 600 0) else -6
def mLf (v : Nat → Int32) (lv c j : Nat) : Int32 := if mGo v lv c (mLN v lv c j 600 0) (14 + 7 * j + 2) = 1 then mGo v lv c (mLN v lv c j 600 0) (14 + 7 * j + 1) else -6
def mLm2 (M : hMem) (v : Nat → Int32) (lv c j : Nat) : hMem := up2 (up2 M 215 13 (mLm v lv c j)) 215 14 (mLf v lv c j)
set_option maxHeartbeats 4000000 in
set_option maxRecDepth 20000 in
theorem c_X7_landsLater (l : Launch) (z : hZt) {n : Nat} {M : hMem} {R : hRef} (gM : gMd n R) {v : Nat → Int32} {lv c : Nat} (hW : MW v lv c) (hR3 : CR M) (hl1 : 1 ≤ lv) {j : Nat} (hj : j < c) : hCt l z m_X7_landsLater [.ref (z.1 + 215), .int (nI j)] n (putRow M 216 v) R n none (putRow (mLm2 M v lv c j) 216 (mGo v lv c (mLN v lv c j 600 0))) R := by
  refine hs_start [some (.ref (z.1 + 215)), some (.int (nI j)), none, none] (by decide +kernel) rfl (by intro u hu; simp at hu; rcases hu with rfl | rfl <;> first | rfl | exact isR_cat kv_isR | exact isR_cat aref_isR) (Nat.le_of_ble_eq_true rfl) (Nat.le_refl _) (fun X hlX hN hC hQ => ?_)
  dsimp only at hC hQ
  have hc20 := hW.c20
  have hl16 := hW.l16
  refine gx_iconst (v := nI 0) hC dX7_landsLater_0 ic_0n ?_
  refine gx_istore_n (i := 2) (L' := [_, _, _, _]) hC dX7_landsLater_1 rfl (Nat.le_of_ble_eq_true rfl) rfl (fun u h9 => by first | exact Or.inl rfl | (cases h9; done) | (right; cases h9; first | rfl | exact isR_cat aref_isR | exact isR_cat kv_isR)) ?_
  have loop_2 : ∀ (k : Nat) (a : Nat) (u3 : Option Value), 600 - a < k → a ≤ 600 → mLN v lv c j (600 - a) a = mLN v lv c j 600 0 → hG z n X n (putRow M 216 (mGo v lv c a)) R 2 [some (.ref (z.1 + 215)), some (.int (nI j)), some (.int (nI a)), u3] [] := by
    intro k
    induction k with
    | zero => intros; omega
    | succ k ih =>
      intro a u3 hk1 ha hN2
      refine gx_iload_n (i := 2) hC dX7_landsLater_2 rfl rfl ?_
      refine gx_sipush (v := nI 600) hC dX7_landsLater_3 sp_600n ?_
      refine gx_icmp_ge (tgt := 34) hC dX7_landsLater_6 (by decide) (fun c_6 => ?_) (fun c_6 => ?_)
      · have d_6 := cle (by omega) (by omega) c_6
        have hN4 : mLN v lv c j 600 0 = a := by
          rw [← hN2, show 600 - a = 0 by omega]; rfl
        refine gx_aload_n (i := 0) hC dX7_landsLater_34 rfl rfl (by first | exact Or.inr ⟨_, rfl⟩ | exact Or.inl rfl | exact kv_isR | exact aref_isR) ?_
        refine gx_getR hC dX7_landsLater_35 fl_X7_7 (by first | exact gM.at215 | exact gM.at216 | exact gM.at217 | exact gM.at218 | exact gM.at219 | exact gM.at220 | exact gM.at221 | exact gM.at222 | exact gM.at223 | exact gM.at224 | exact gM.at225) rfl (gM.r216) (by decide) ?_
        refine gx_iload_n (i := 1) hC dX7_landsLater_38 rfl rfl ?_
        refine gx_callS1 hC dX7_landsLater_39 (c_X7_at _ _ _) kY_X7_at kS_X7_at ml_X7_52 (by decide) rfl rfl rfl (by first | exact Nat.le_of_ble_eq_true rfl | (simp [Value.category, isR_cat kv_isR, isR_cat aref_isR]; done)) (Nat.le_refl _) (Nat.le_refl _) ?_
        refine gx_iconst (v := nI 2) hC dX7_landsLater_42 ic_2n ?_
        refine gx_iadd hC dX7_landsLater_43 ?_
        rw [nI_add]
        refine gx_iald hC dX7_landsLater_44 (by first | exact gM.at215 | exact gM.at216 | exact gM.at217 | exact gM.at218 | exact gM.at219 | exact gM.at220 | exact gM.at221 | exact gM.at222 | exact gM.at223 | exact gM.at224 | exact gM.at225) (by exact vpn (by omega) (by decide)) (pRn (by omega)) ?_
        refine gx_iconst (v := 1) hC dX7_landsLater_45 ic_1 ?_
        refine gx_icmp_ne (tgt := 53) hC dX7_landsLater_46 (by decide) (fun c_46 => ?_) (fun c_46 => ?_)
        · refine gx_iconst (v := 0) hC dX7_landsLater_53 ic_0 ?_
          refine gx_istore_n (i := 3) (L' := [_, _, _, _]) hC dX7_landsLater_54 rfl (Nat.le_of_ble_eq_true rfl) rfl (fun u h9 => by first | exact Or.inl rfl | (cases h9; done) | (right; cases h9; first | rfl | exact isR_cat aref_isR | exact isR_cat kv_isR)) ?_
          refine gx_aload_n (i := 0) hC dX7_landsLater_55 rfl rfl (by first | exact Or.inr ⟨_, rfl⟩ | exact Or.inl rfl | exact kv_isR | exact aref_isR) ?_
          refine gx_iload_n (i := 3) hC dX7_landsLater_56 rfl rfl ?_
          refine gx_if_eq (tgt := 64) hC dX7_landsLater_57 (by decide) (fun c_57 => ?_) (fun c_57 => ?_)
          · refine gx_bipush (v := -6) hC dX7_landsLater_64 bp_m6 ?_
            refine gx_putI hC dX7_landsLater_66 fl_X7_128 (by first | exact gM.at215 | exact gM.at216 | exact gM.at217 | exact gM.at218 | exact gM.at219 | exact gM.at220 | exact gM.at221 | exact gM.at222 | exact gM.at223 | exact gM.at224 | exact gM.at225) fn_6_13 rfl (up_Ro (by decide)) ?_
            refine gx_aload_n (i := 0) hC dX7_landsLater_69 rfl rfl (by first | exact Or.inr ⟨_, rfl⟩ | exact Or.inl rfl | exact kv_isR | exact aref_isR) ?_
            refine gx_iload_n (i := 3) hC dX7_landsLater_70 rfl rfl ?_
            refine gx_if_eq (tgt := 88) hC dX7_landsLater_71 (by decide) (fun c_71 => ?_) (fun c_71 => ?_)
            · refine gx_bipush (v := -6) hC dX7_landsLater_88 bp_m6 ?_
              refine gx_putI hC dX7_landsLater_90 fl_X7_131 (by first | exact gM.at215 | exact gM.at216 | exact gM.at217 | exact gM.at218 | exact gM.at219 | exact gM.at220 | exact gM.at221 | exact gM.at222 | exact gM.at223 | exact gM.at224 | exact gM.at225) fn_6_14 rfl (up_Ro (by decide)) ?_
              exact gx_vret hC hQ dX7_landsLater_93 ((by unfold mLm2 mLm mLf; rw [hN4, if_neg c_46, if_neg c_46])) rfl
            · exact absurd rfl c_71
          · exact absurd rfl c_57
        · refine gx_iconst (v := 1) hC dX7_landsLater_49 ic_1 ?_
          refine gx_goto (tgt := 54) hC dX7_landsLater_50 (by decide) ?_
          refine gx_istore_n (i := 3) (L' := [_, _, _, _]) hC dX7_landsLater_54 rfl (Nat.le_of_ble_eq_true rfl) rfl (fun u h9 => by first | exact Or.inl rfl | (cases h9; done) | (right; cases h9; first | rfl | exact isR_cat aref_isR | exact isR_cat kv_isR)) ?_
          refine gx_aload_n (i := 0) hC dX7_landsLater_55 rfl rfl (by first | exact Or.inr ⟨_, rfl⟩ | exact Or.inl rfl | exact kv_isR | exact aref_isR) ?_
          refine gx_iload_n (i := 3) hC dX7_landsLater_56 rfl rfl ?_
          refine gx_if_eq (tgt := 64) hC dX7_landsLater_57 (by decide) (fun c_57 => ?_) (fun c_57 => ?_)
          · exact absurd c_57 (by decide)
          · refine gx_iload_n (i := 2) hC dX7_landsLater_60 rfl rfl ?_
            refine gx_goto (tgt := 66) hC dX7_landsLater_61 (by decide) ?_
            refine gx_putI hC dX7_landsLater_66 fl_X7_128 (by first | exact gM.at215 | exact gM.at216 | exact gM.at217 | exact gM.at218 | exact gM.at219 | exact gM.at220 | exact gM.at221 | exact gM.at222 | exact gM.at223 | exact gM.at224 | exact gM.at225) fn_6_13 rfl (up_Ro (by decide)) ?_
            refine gx_aload_n (i := 0) hC dX7_landsLater_69 rfl rfl (by first | exact Or.inr ⟨_, rfl⟩ | exact Or.inl rfl | exact kv_isR | exact aref_isR) ?_
            refine gx_iload_n (i := 3) hC dX7_landsLater_70 rfl rfl ?_
            refine gx_if_eq (tgt := 88) hC dX7_landsLater_71 (by decide) (fun c_71 => ?_) (fun c_71 => ?_)
            · exact absurd c_71 (by decide)
            · refine gx_aload_n (i := 0) hC dX7_landsLater_74 rfl rfl (by first | exact Or.inr ⟨_, rfl⟩ | exact Or.inl rfl | exact kv_isR | exact aref_isR) ?_
              refine gx_getR hC dX7_landsLater_75 fl_X7_7 (by first | exact gM.at215 | exact gM.at216 | exact gM.at217 | exact gM.at218 | exact gM.at219 | exact gM.at220 | exact gM.at221 | exact gM.at222 | exact gM.at223 | exact gM.at224 | exact gM.at225) rfl (gM.r216) (by decide) ?_
              refine gx_iload_n (i := 1) hC dX7_landsLater_78 rfl rfl ?_
              refine gx_callS1 hC dX7_landsLater_79 (c_X7_at _ _ _) kY_X7_at kS_X7_at ml_X7_52 (by decide) rfl rfl rfl (by first | exact Nat.le_of_ble_eq_true rfl | (simp [Value.category, isR_cat kv_isR, isR_cat aref_isR]; done)) (Nat.le_refl _) (Nat.le_refl _) ?_
              refine gx_iconst (v := nI 1) hC dX7_landsLater_82 ic_1n ?_
              refine gx_iadd hC dX7_landsLater_83 ?_
              rw [nI_add]
              refine gx_iald hC dX7_landsLater_84 (by first | exact gM.at215 | exact gM.at216 | exact gM.at217 | exact gM.at218 | exact gM.at219 | exact gM.at220 | exact gM.at221 | exact gM.at222 | exact gM.at223 | exact gM.at224 | exact gM.at225) (by exact vpn (by omega) (by decide)) (pRn (by omega)) ?_
              refine gx_goto (tgt := 90) hC dX7_landsLater_85 (by decide) ?_
              refine gx_putI hC dX7_landsLater_90 fl_X7_131 (by first | exact gM.at215 | exact gM.at216 | exact gM.at217 | exact gM.at218 | exact gM.at219 | exact gM.at220 | exact gM.at221 | exact gM.at222 | exact gM.at223 | exact gM.at224 | exact gM.at225) fn_6_14 rfl (up_Ro (by decide)) ?_
              exact gx_vret hC hQ dX7_landsLater_93 ((by unfold mLm2 mLm mLf; rw [hN4, if_pos c_46, if_pos c_46])) rfl
      · have d_6 := cnle (by omega) (by omega) c_6
        refine gx_aload_n (i := 0) hC dX7_landsLater_9 rfl rfl (by first | exact Or.inr ⟨_, rfl⟩ | exact Or.inl rfl | exact kv_isR | exact aref_isR) ?_
        refine gx_getR hC dX7_landsLater_10 fl_X7_7 (by first | exact gM.at215 | exact gM.at216 | exact gM.at217 | exact gM.at218 | exact gM.at219 | exact gM.at220 | exact gM.at221 | exact gM.at222 | exact gM.at223 | exact gM.at224 | exact gM.at225) rfl (gM.r216) (by decide) ?_
        refine gx_iload_n (i := 1) hC dX7_landsLater_13 rfl rfl ?_
        refine gx_callS1 hC dX7_landsLater_14 (c_X7_at _ _ _) kY_X7_at kS_X7_at ml_X7_52 (by decide) rfl rfl rfl (by first | exact Nat.le_of_ble_eq_true rfl | (simp [Value.category, isR_cat kv_isR, isR_cat aref_isR]; done)) (Nat.le_refl _) (Nat.le_refl _) ?_
        refine gx_iconst (v := nI 2) hC dX7_landsLater_17 ic_2n ?_
        refine gx_iadd hC dX7_landsLater_18 ?_
        rw [nI_add]
        refine gx_iald hC dX7_landsLater_19 (by first | exact gM.at215 | exact gM.at216 | exact gM.at217 | exact gM.at218 | exact gM.at219 | exact gM.at220 | exact gM.at221 | exact gM.at222 | exact gM.at223 | exact gM.at224 | exact gM.at225) (by exact vpn (by omega) (by decide)) (pRn (by omega)) ?_
        refine gx_if_ne (tgt := 34) hC dX7_landsLater_20 (by decide) (fun c_20 => ?_) (fun c_20 => ?_)
        · have hN4 : mLN v lv c j 600 0 = a := by
            rw [← hN2, show 600 - a = (600 - (a + 1)) + 1 by omega, mLN, if_neg c_20]
          refine gx_aload_n (i := 0) hC dX7_landsLater_34 rfl rfl (by first | exact Or.inr ⟨_, rfl⟩ | exact Or.inl rfl | exact kv_isR | exact aref_isR) ?_
          refine gx_getR hC dX7_landsLater_35 fl_X7_7 (by first | exact gM.at215 | exact gM.at216 | exact gM.at217 | exact gM.at218 | exact gM.at219 | exact gM.at220 | exact gM.at221 | exact gM.at222 | exact gM.at223 | exact gM.at224 | exact gM.at225) rfl (gM.r216) (by decide) ?_
          refine gx_iload_n (i := 1) hC dX7_landsLater_38 rfl rfl ?_
          refine gx_callS1 hC dX7_landsLater_39 (c_X7_at _ _ _) kY_X7_at kS_X7_at ml_X7_52 (by decide) rfl rfl rfl (by first | exact Nat.le_of_ble_eq_true rfl | (simp [Value.category, isR_cat kv_isR, isR_cat aref_isR]; done)) (Nat.le_refl _) (Nat.le_refl _) ?_
          refine gx_iconst (v := nI 2) hC dX7_landsLater_42 ic_2n ?_
          refine gx_iadd hC dX7_landsLater_43 ?_
          rw [nI_add]
          refine gx_iald hC dX7_landsLater_44 (by first | exact gM.at215 | exact gM.at216 | exact gM.at217 | exact gM.at218 | exact gM.at219 | exact gM.at220 | exact gM.at221 | exact gM.at222 | exact gM.at223 | exact gM.at224 | exact gM.at225) (by exact vpn (by omega) (by decide)) (pRn (by omega)) ?_
          refine gx_iconst (v := 1) hC dX7_landsLater_45 ic_1 ?_
          refine gx_icmp_ne (tgt := 53) hC dX7_landsLater_46 (by decide) (fun c_46 => ?_) (fun c_46 => ?_)
          · refine gx_iconst (v := 0) hC dX7_landsLater_53 ic_0 ?_
            refine gx_istore_n (i := 3) (L' := [_, _, _, _]) hC dX7_landsLater_54 rfl (Nat.le_of_ble_eq_true rfl) rfl (fun u h9 => by first | exact Or.inl rfl | (cases h9; done) | (right; cases h9; first | rfl | exact isR_cat aref_isR | exact isR_cat kv_isR)) ?_
            refine gx_aload_n (i := 0) hC dX7_landsLater_55 rfl rfl (by first | exact Or.inr ⟨_, rfl⟩ | exact Or.inl rfl | exact kv_isR | exact aref_isR) ?_
            refine gx_iload_n (i := 3) hC dX7_landsLater_56 rfl rfl ?_
            refine gx_if_eq (tgt := 64) hC dX7_landsLater_57 (by decide) (fun c_57 => ?_) (fun c_57 => ?_)
            · refine gx_bipush (v := -6) hC dX7_landsLater_64 bp_m6 ?_
              refine gx_putI hC dX7_landsLater_66 fl_X7_128 (by first | exact gM.at215 | exact gM.at216 | exact gM.at217 | exact gM.at218 | exact gM.at219 | exact gM.at220 | exact gM.at221 | exact gM.at222 | exact gM.at223 | exact gM.at224 | exact gM.at225) fn_6_13 rfl (up_Ro (by decide)) ?_
              refine gx_aload_n (i := 0) hC dX7_landsLater_69 rfl rfl (by first | exact Or.inr ⟨_, rfl⟩ | exact Or.inl rfl | exact kv_isR | exact aref_isR) ?_
              refine gx_iload_n (i := 3) hC dX7_landsLater_70 rfl rfl ?_
              refine gx_if_eq (tgt := 88) hC dX7_landsLater_71 (by decide) (fun c_71 => ?_) (fun c_71 => ?_)
              · refine gx_bipush (v := -6) hC dX7_landsLater_88 bp_m6 ?_
                refine gx_putI hC dX7_landsLater_90 fl_X7_131 (by first | exact gM.at215 | exact gM.at216 | exact gM.at217 | exact gM.at218 | exact gM.at219 | exact gM.at220 | exact gM.at221 | exact gM.at222 | exact gM.at223 | exact gM.at224 | exact gM.at225) fn_6_14 rfl (up_Ro (by decide)) ?_
                exact gx_vret hC hQ dX7_landsLater_93 ((by unfold mLm2 mLm mLf; rw [hN4, if_neg c_46, if_neg c_46])) rfl
              · exact absurd rfl c_71
            · exact absurd rfl c_57
          · refine gx_iconst (v := 1) hC dX7_landsLater_49 ic_1 ?_
            refine gx_goto (tgt := 54) hC dX7_landsLater_50 (by decide) ?_
            refine gx_istore_n (i := 3) (L' := [_, _, _, _]) hC dX7_landsLater_54 rfl (Nat.le_of_ble_eq_true rfl) rfl (fun u h9 => by first | exact Or.inl rfl | (cases h9; done) | (right; cases h9; first | rfl | exact isR_cat aref_isR | exact isR_cat kv_isR)) ?_
            refine gx_aload_n (i := 0) hC dX7_landsLater_55 rfl rfl (by first | exact Or.inr ⟨_, rfl⟩ | exact Or.inl rfl | exact kv_isR | exact aref_isR) ?_
            refine gx_iload_n (i := 3) hC dX7_landsLater_56 rfl rfl ?_
            refine gx_if_eq (tgt := 64) hC dX7_landsLater_57 (by decide) (fun c_57 => ?_) (fun c_57 => ?_)
            · exact absurd c_57 (by decide)
            · refine gx_iload_n (i := 2) hC dX7_landsLater_60 rfl rfl ?_
              refine gx_goto (tgt := 66) hC dX7_landsLater_61 (by decide) ?_
              refine gx_putI hC dX7_landsLater_66 fl_X7_128 (by first | exact gM.at215 | exact gM.at216 | exact gM.at217 | exact gM.at218 | exact gM.at219 | exact gM.at220 | exact gM.at221 | exact gM.at222 | exact gM.at223 | exact gM.at224 | exact gM.at225) fn_6_13 rfl (up_Ro (by decide)) ?_
              refine gx_aload_n (i := 0) hC dX7_landsLater_69 rfl rfl (by first | exact Or.inr ⟨_, rfl⟩ | exact Or.inl rfl | exact kv_isR | exact aref_isR) ?_
              refine gx_iload_n (i := 3) hC dX7_landsLater_70 rfl rfl ?_
              refine gx_if_eq (tgt := 88) hC dX7_landsLater_71 (by decide) (fun c_71 => ?_) (fun c_71 => ?_)
              · exact absurd c_71 (by decide)
              · refine gx_aload_n (i := 0) hC dX7_landsLater_74 rfl rfl (by first | exact Or.inr ⟨_, rfl⟩ | exact Or.inl rfl | exact kv_isR | exact aref_isR) ?_
                refine gx_getR hC dX7_landsLater_75 fl_X7_7 (by first | exact gM.at215 | exact gM.at216 | exact gM.at217 | exact gM.at218 | exact gM.at219 | exact gM.at220 | exact gM.at221 | exact gM.at222 | exact gM.at223 | exact gM.at224 | exact gM.at225) rfl (gM.r216) (by decide) ?_
                refine gx_iload_n (i := 1) hC dX7_landsLater_78 rfl rfl ?_
                refine gx_callS1 hC dX7_landsLater_79 (c_X7_at _ _ _) kY_X7_at kS_X7_at ml_X7_52 (by decide) rfl rfl rfl (by first | exact Nat.le_of_ble_eq_true rfl | (simp [Value.category, isR_cat kv_isR, isR_cat aref_isR]; done)) (Nat.le_refl _) (Nat.le_refl _) ?_
                refine gx_iconst (v := nI 1) hC dX7_landsLater_82 ic_1n ?_
                refine gx_iadd hC dX7_landsLater_83 ?_
                rw [nI_add]
                refine gx_iald hC dX7_landsLater_84 (by first | exact gM.at215 | exact gM.at216 | exact gM.at217 | exact gM.at218 | exact gM.at219 | exact gM.at220 | exact gM.at221 | exact gM.at222 | exact gM.at223 | exact gM.at224 | exact gM.at225) (by exact vpn (by omega) (by decide)) (pRn (by omega)) ?_
                refine gx_goto (tgt := 90) hC dX7_landsLater_85 (by decide) ?_
                refine gx_putI hC dX7_landsLater_90 fl_X7_131 (by first | exact gM.at215 | exact gM.at216 | exact gM.at217 | exact gM.at218 | exact gM.at219 | exact gM.at220 | exact gM.at221 | exact gM.at222 | exact gM.at223 | exact gM.at224 | exact gM.at225) fn_6_14 rfl (up_Ro (by decide)) ?_
                exact gx_vret hC hQ dX7_landsLater_93 ((by unfold mLm2 mLm mLf; rw [hN4, if_pos c_46, if_pos c_46])) rfl
        · refine gx_aload_n (i := 0) hC dX7_landsLater_23 rfl rfl (by first | exact Or.inr ⟨_, rfl⟩ | exact Or.inl rfl | exact kv_isR | exact aref_isR) ?_
          refine gx_callV1 hC dX7_landsLater_24 (c_X7_passes _ _ gM (hW.go a) hR3 hl1) kY_X7_passes kV_X7_passes ml_X7_110 (by first | exact gM.at215 | exact gM.at216 | exact gM.at217 | exact gM.at218 | exact gM.at219 | exact gM.at220 | exact gM.at221 | exact gM.at222 | exact gM.at223 | exact gM.at224 | exact gM.at225) rfl (by decide) rfl rfl rfl (by first | exact Nat.le_of_ble_eq_true rfl | (simp [Value.category, isR_cat kv_isR, isR_cat aref_isR]; done)) (Nat.le_refl _) (Nat.le_refl _) ?_
          refine gx_istore_n (i := 3) (L' := [_, _, _, _]) hC dX7_landsLater_27 rfl (Nat.le_of_ble_eq_true rfl) rfl (fun u h9 => by first | exact Or.inl rfl | (cases h9; done) | (right; cases h9; first | rfl | exact isR_cat aref_isR | exact isR_cat kv_isR)) ?_
          refine gx_iinc (i := 2) (L' := [_, _, _, _]) hC dX7_landsLater_28 rfl (ii_1 _) (Nat.le_of_ble_eq_true rfl) rfl (fun u h9 => by first | exact Or.inl rfl | (cases h9; done) | (right; cases h9; first | rfl | exact isR_cat aref_isR | exact isR_cat kv_isR)) ?_
          refine gx_goto (tgt := 2) hC dX7_landsLater_31 (by decide) ?_
          exact ih (a + 1) _ (by omega) (by omega) (by rw [← hN2, show 600 - a = (600 - (a + 1)) + 1 by omega, mLN, if_pos c_20])
  exact loop_2 601 0 none (by omega) (by omega) rfl
theorem CR.of {M M2 : hMem} (h : CR M) (e : ∀ i k, 223 ≤ i → M2 i k = M i k) : CR M2 := fun x hx => ⟨(e _ _ (by decide)).trans (h x hx).1, (e _ _ (by decide)).trans (h x hx).2.1, (e _ _ (by decide)).trans (h x hx).2.2⟩
/-- what a forecast leaves behind -/
def mFo (M : hMem) (v : Nat → Int32) (lv c j : Nat) : hMem := mLm2 (putRow M 218 (cpy (M 218) 0 v 154)) v lv c j
theorem mLm2_o {M : hMem} {v : Nat → Int32} {lv c j i k : Nat} (h : i ≠ 215) : mLm2 M v lv c j i k = M i k := by
  unfold mLm2; rw [up2_off (fun e => h e.1), up2_off (fun e => h e.1)]
theorem mFo_218 {M : hMem} {v : Nat → Int32} {lv c j : Nat} : mFo M v lv c j 218 = cpy (M 218) 0 v 154 := by
  funext k; unfold mFo; rw [mLm2_o (by decide), pRs]
theorem mLm2_13 {M : hMem} {v : Nat → Int32} {lv c j : Nat} : mLm2 M v lv c j 215 13 = mLm v lv c j := by unfold mLm2; rw [up2_off (by decide), up2_same]
theorem mLm2_14 {M : hMem} {v : Nat → Int32} {lv c j : Nat} : mLm2 M v lv c j 215 14 = mLf v lv c j := by unfold mLm2; rw [up2_same]
theorem CR.fo {M : hMem} {v : Nat → Int32} {lv c j : Nat} (h : CR M) : CR (mFo M v lv c j) := h.of (fun i k hi => by unfold mFo; rw [mLm2_o (by omega), pRo (by omega)])
theorem CR.row {M : hMem} {i : Nat} {s : Nat → Int32} (h : CR M) (hi : i < 223) : CR (putRow M i s) := h.of (fun b k hb => pRo (by omega))
theorem hEq.rfl' {v : Nat → Int32} : hEq v v := fun _ _ => rfl
set_option maxHeartbeats 4000000 in
set_option maxRecDepth 20000 in
theorem c_X7_forecasts (l : Launch) (z : hZt) {n : Nat} {M : hMem} {R : hRef} (gM : gMd n R) {v : Nat → Int32} {lv c : Nat} (hW : MW v lv c) (hR3 : CR M) (hl1 : 1 ≤ lv) {j : Nat} (hj : j < c) : hCt l z m_X7_forecasts [.ref (z.1 + 215), .int (nI j)] n (putRow M 216 v) R n none (putRow (mFo M v lv c j) 216 v) R := by
  refine hs_start [some (.ref (z.1 + 215)), some (.int (nI j))] (by decide +kernel) rfl (by intro u hu; simp at hu; rcases hu with rfl | rfl <;> first | rfl | exact isR_cat kv_isR | exact isR_cat aref_isR) (Nat.le_of_ble_eq_true rfl) (Nat.le_refl _) (fun X hlX hN hC hQ => ?_)
  dsimp only at hC hQ
  have hc20 := hW.c20
  have hl16 := hW.l16
  refine gx_aload_n (i := 0) hC dX7_forecasts_0 rfl rfl (by first | exact Or.inr ⟨_, rfl⟩ | exact Or.inl rfl | exact kv_isR | exact aref_isR) ?_
  refine gx_aload_n (i := 0) hC dX7_forecasts_1 rfl rfl (by first | exact Or.inr ⟨_, rfl⟩ | exact Or.inl rfl | exact kv_isR | exact aref_isR) ?_
  refine gx_getR hC dX7_forecasts_2 fl_X7_16 (by first | exact gM.at215 | exact gM.at216 | exact gM.at217 | exact gM.at218 | exact gM.at219 | exact gM.at220 | exact gM.at221 | exact gM.at222 | exact gM.at223 | exact gM.at224 | exact gM.at225) rfl (gM.r218) (by decide) ?_
  refine gx_callV0 hC dX7_forecasts_5 (c_X7_keeps _ _ gM) kY_X7_keeps kV_X7_keeps ml_X7_134 (by first | exact gM.at215 | exact gM.at216 | exact gM.at217 | exact gM.at218 | exact gM.at219 | exact gM.at220 | exact gM.at221 | exact gM.at222 | exact gM.at223 | exact gM.at224 | exact gM.at225) rfl (by decide) rfl rfl rfl (by first | exact Nat.le_of_ble_eq_true rfl | (simp [Value.category, isR_cat kv_isR, isR_cat aref_isR]; done)) (Nat.le_refl _) (Nat.le_refl _) ?_
  refine gx_aload_n (i := 0) hC dX7_forecasts_8 rfl rfl (by first | exact Or.inr ⟨_, rfl⟩ | exact Or.inl rfl | exact kv_isR | exact aref_isR) ?_
  refine gx_iload_n (i := 1) hC dX7_forecasts_9 rfl rfl ?_
  refine gx_callV0 hC dX7_forecasts_10 (c_X7_landsLater _ _ gM hW (hR3.row (by decide)) hl1 hj) kY_X7_landsLater kV_X7_landsLater ml_X7_138 (by first | exact gM.at215 | exact gM.at216 | exact gM.at217 | exact gM.at218 | exact gM.at219 | exact gM.at220 | exact gM.at221 | exact gM.at222 | exact gM.at223 | exact gM.at224 | exact gM.at225) rfl (by decide) rfl rfl rfl (by first | exact Nat.le_of_ble_eq_true rfl | (simp [Value.category, isR_cat kv_isR, isR_cat aref_isR]; done)) (Nat.le_refl _) (Nat.le_refl _) ?_
  refine gx_aload_n (i := 0) hC dX7_forecasts_13 rfl rfl (by first | exact Or.inr ⟨_, rfl⟩ | exact Or.inl rfl | exact kv_isR | exact aref_isR) ?_
  refine gx_callV0 hC dX7_forecasts_14 (b_comesBack _ _ gM mFo_218 (hEq.rfl'.go hW.c20 _)) kY_X7_comesBack kV_X7_comesBack ml_X7_142 (by first | exact gM.at215 | exact gM.at216 | exact gM.at217 | exact gM.at218 | exact gM.at219 | exact gM.at220 | exact gM.at221 | exact gM.at222 | exact gM.at223 | exact gM.at224 | exact gM.at225) rfl (by decide) rfl rfl rfl (by first | exact Nat.le_of_ble_eq_true rfl | (simp [Value.category, isR_cat kv_isR, isR_cat aref_isR]; done)) (Nat.le_refl _) (Nat.le_refl _) ?_
  exact gx_vret hC hQ dX7_forecasts_17 (rfl) rfl
set_option maxHeartbeats 4000000 in
set_option maxRecDepth 20000 in
theorem c_X7_minutesOf (l : Launch) (z : hZt) {n : Nat} {M : hMem} {R : hRef} (gM : gMd n R) {v : Nat → Int32} {lv c : Nat} (hW : MW v lv c) (hR3 : CR M) (hl1 : 1 ≤ lv) {j : Nat} (hj : j < c) : hCt l z m_X7_minutesOf [.ref (z.1 + 215), .int (nI j)] n (putRow M 216 v) R n (some (.int (mLm v lv c j))) (putRow (mFo M v lv c j) 216 v) R := by
  refine hs_start [some (.ref (z.1 + 215)), some (.int (nI j))] (by decide +kernel) rfl (by intro u hu; simp at hu; rcases hu with rfl | rfl <;> first | rfl | exact isR_cat kv_isR | exact isR_cat aref_isR) (Nat.le_of_ble_eq_true rfl) (Nat.le_refl _) (fun X hlX hN hC hQ => ?_)
  dsimp only at hC hQ
  have hc20 := hW.c20
  have hl16 := hW.l16
  refine gx_aload_n (i := 0) hC dX7_minutesOf_0 rfl rfl (by first | exact Or.inr ⟨_, rfl⟩ | exact Or.inl rfl | exact kv_isR | exact aref_isR) ?_
  refine gx_iload_n (i := 1) hC dX7_minutesOf_1 rfl rfl ?_
  refine gx_callV0 hC dX7_minutesOf_2 (c_X7_forecasts _ _ gM hW hR3 hl1 hj) kY_X7_forecasts kV_X7_forecasts ml_X7_145 (by first | exact gM.at215 | exact gM.at216 | exact gM.at217 | exact gM.at218 | exact gM.at219 | exact gM.at220 | exact gM.at221 | exact gM.at222 | exact gM.at223 | exact gM.at224 | exact gM.at225) rfl (by decide) rfl rfl rfl (by first | exact Nat.le_of_ble_eq_true rfl | (simp [Value.category, isR_cat kv_isR, isR_cat aref_isR]; done)) (Nat.le_refl _) (Nat.le_refl _) ?_
  refine gx_aload_n (i := 0) hC dX7_minutesOf_5 rfl rfl (by first | exact Or.inr ⟨_, rfl⟩ | exact Or.inl rfl | exact kv_isR | exact aref_isR) ?_
  refine gx_getI hC dX7_minutesOf_6 fl_X7_128 (by first | exact gM.at215 | exact gM.at216 | exact gM.at217 | exact gM.at218 | exact gM.at219 | exact gM.at220 | exact gM.at221 | exact gM.at222 | exact gM.at223 | exact gM.at224 | exact gM.at225) (by decide) ((pRo (by decide)).trans mLm2_13) ?_
  exact gx_iret hC hQ dX7_minutesOf_9 (rfl) (rfl) rfl
set_option maxHeartbeats 4000000 in
set_option maxRecDepth 20000 in
theorem c_X7_landsWith (l : Launch) (z : hZt) {n : Nat} {M : hMem} {R : hRef} (gM : gMd n R) {v : Nat → Int32} {lv c : Nat} (hW : MW v lv c) (hR3 : CR M) (hl1 : 1 ≤ lv) {j : Nat} (hj : j < c) : hCt l z m_X7_landsWith [.ref (z.1 + 215), .int (nI j)] n (putRow M 216 v) R n (some (.int (mLf v lv c j))) (putRow (mFo M v lv c j) 216 v) R := by
  refine hs_start [some (.ref (z.1 + 215)), some (.int (nI j))] (by decide +kernel) rfl (by intro u hu; simp at hu; rcases hu with rfl | rfl <;> first | rfl | exact isR_cat kv_isR | exact isR_cat aref_isR) (Nat.le_of_ble_eq_true rfl) (Nat.le_refl _) (fun X hlX hN hC hQ => ?_)
  dsimp only at hC hQ
  have hc20 := hW.c20
  have hl16 := hW.l16
  refine gx_aload_n (i := 0) hC dX7_landsWith_0 rfl rfl (by first | exact Or.inr ⟨_, rfl⟩ | exact Or.inl rfl | exact kv_isR | exact aref_isR) ?_
  refine gx_iload_n (i := 1) hC dX7_landsWith_1 rfl rfl ?_
  refine gx_callV1 hC dX7_landsWith_2 (c_X7_isCraft _ _ gM _) kY_X7_isCraft kV_X7_isCraft ml_X7_85 (by first | exact gM.at215 | exact gM.at216 | exact gM.at217 | exact gM.at218 | exact gM.at219 | exact gM.at220 | exact gM.at221 | exact gM.at222 | exact gM.at223 | exact gM.at224 | exact gM.at225) rfl (by decide) rfl rfl rfl (by first | exact Nat.le_of_ble_eq_true rfl | (simp [Value.category, isR_cat kv_isR, isR_cat aref_isR]; done)) (Nat.le_refl _) (Nat.le_refl _) ?_
  refine gx_ifb_ne (tgt := 10) hC dX7_landsWith_5 (by decide) (fun c_5 => ?_) (fun c_5 => ?_)
  · refine gx_aload_n (i := 0) hC dX7_landsWith_10 rfl rfl (by first | exact Or.inr ⟨_, rfl⟩ | exact Or.inl rfl | exact kv_isR | exact aref_isR) ?_
    refine gx_iload_n (i := 1) hC dX7_landsWith_11 rfl rfl ?_
    refine gx_callV0 hC dX7_landsWith_12 (c_X7_forecasts _ _ gM hW hR3 hl1 hj) kY_X7_forecasts kV_X7_forecasts ml_X7_145 (by first | exact gM.at215 | exact gM.at216 | exact gM.at217 | exact gM.at218 | exact gM.at219 | exact gM.at220 | exact gM.at221 | exact gM.at222 | exact gM.at223 | exact gM.at224 | exact gM.at225) rfl (by decide) rfl rfl rfl (by first | exact Nat.le_of_ble_eq_true rfl | (simp [Value.category, isR_cat kv_isR, isR_cat aref_isR]; done)) (Nat.le_refl _) (Nat.le_refl _) ?_
    refine gx_aload_n (i := 0) hC dX7_landsWith_15 rfl rfl (by first | exact Or.inr ⟨_, rfl⟩ | exact Or.inl rfl | exact kv_isR | exact aref_isR) ?_
    refine gx_getI hC dX7_landsWith_16 fl_X7_131 (by first | exact gM.at215 | exact gM.at216 | exact gM.at217 | exact gM.at218 | exact gM.at219 | exact gM.at220 | exact gM.at221 | exact gM.at222 | exact gM.at223 | exact gM.at224 | exact gM.at225) (by decide) ((pRo (by decide)).trans mLm2_14) ?_
    exact gx_iret hC hQ dX7_landsWith_19 (rfl) (rfl) rfl
  · exact absurd ((mCr_n hW hj).symm.trans c_5) (by decide)
set_option maxHeartbeats 4000000 in
set_option maxRecDepth 20000 in
theorem c0_X7_landsWith (l : Launch) (z : hZt) {n : Nat} {M : hMem} {R : hRef} (gM : gMd n R) {v : Nat → Int32} {x : Int32} (hx : mCr v x = false) : hCt l z m_X7_landsWith [.ref (z.1 + 215), .int x] n (putRow M 216 v) R n (some (.int (-1))) (putRow M 216 v) R := by
  refine hs_start [some (.ref (z.1 + 215)), some (.int x)] (by decide +kernel) rfl (by intro u hu; simp at hu; rcases hu with rfl | rfl <;> first | rfl | exact isR_cat kv_isR | exact isR_cat aref_isR) (Nat.le_of_ble_eq_true rfl) (Nat.le_refl _) (fun X hlX hN hC hQ => ?_)
  dsimp only at hC hQ
  refine gx_aload_n (i := 0) hC dX7_landsWith_0 rfl rfl (by first | exact Or.inr ⟨_, rfl⟩ | exact Or.inl rfl | exact kv_isR | exact aref_isR) ?_
  refine gx_iload_n (i := 1) hC dX7_landsWith_1 rfl rfl ?_
  refine gx_callV1 hC dX7_landsWith_2 (c_X7_isCraft _ _ gM _) kY_X7_isCraft kV_X7_isCraft ml_X7_85 (by first | exact gM.at215 | exact gM.at216 | exact gM.at217 | exact gM.at218 | exact gM.at219 | exact gM.at220 | exact gM.at221 | exact gM.at222 | exact gM.at223 | exact gM.at224 | exact gM.at225) rfl (by decide) rfl rfl rfl (by first | exact Nat.le_of_ble_eq_true rfl | (simp [Value.category, isR_cat kv_isR, isR_cat aref_isR]; done)) (Nat.le_refl _) (Nat.le_refl _) ?_
  refine gx_ifb_ne (tgt := 10) hC dX7_landsWith_5 (by decide) (fun c_5 => ?_) (fun c_5 => ?_)
  · exact absurd (hx.symm.trans c_5) (by decide)
  · refine gx_iconst (v := -1) hC dX7_landsWith_8 ic_m1 ?_
    exact gx_iret hC hQ dX7_landsWith_9 (rfl) (rfl) rfl
def mEu (v : Nat → Int32) (j : Nat) : Int32 := if ¬ v (14 + 7 * j + 2) = 0 then -3 else
  if v (14 + 7 * j + 1) - kRes (v (14 + 7 * j)) ≤ 0 then 0 else (v (14 + 7 * j + 1) - kRes (v (14 + 7 * j)) + mBurn v j (v (14 + 7 * j + 3)) - 1) / mBurn v j (v (14 + 7 * j + 3))
set_option maxHeartbeats 4000000 in
set_option maxRecDepth 20000 in
theorem c_X7_endurance (l : Launch) (z : hZt) {n : Nat} {M : hMem} {R : hRef} (gM : gMd n R) {v : Nat → Int32} {lv c : Nat} (hW : MW v lv c) (hR3 : CR M) {j : Nat} (hj : j < c) (hne : mBurn v j (v (14 + 7 * j + 3)) ≠ 0) : hCt l z m_X7_endurance [.ref (z.1 + 215), .int (nI j)] n (putRow M 216 v) R n (some (.int (mEu v j))) (putRow M 216 v) R := by
  refine hs_start [some (.ref (z.1 + 215)), some (.int (nI j)), none, none] (by decide +kernel) rfl (by intro u hu; simp at hu; rcases hu with rfl | rfl <;> first | rfl | exact isR_cat kv_isR | exact isR_cat aref_isR) (Nat.le_of_ble_eq_true rfl) (Nat.le_refl _) (fun X hlX hN hC hQ => ?_)
  dsimp only at hC hQ
  have hc20 := hW.c20
  have hl16 := hW.l16
  refine gx_aload_n (i := 0) hC dX7_endurance_0 rfl rfl (by first | exact Or.inr ⟨_, rfl⟩ | exact Or.inl rfl | exact kv_isR | exact aref_isR) ?_
  refine gx_iload_n (i := 1) hC dX7_endurance_1 rfl rfl ?_
  refine gx_callV1 hC dX7_endurance_2 (c_X7_isCraft _ _ gM _) kY_X7_isCraft kV_X7_isCraft ml_X7_85 (by first | exact gM.at215 | exact gM.at216 | exact gM.at217 | exact gM.at218 | exact gM.at219 | exact gM.at220 | exact gM.at221 | exact gM.at222 | exact gM.at223 | exact gM.at224 | exact gM.at225) rfl (by decide) rfl rfl rfl (by first | exact Nat.le_of_ble_eq_true rfl | (simp [Value.category, isR_cat kv_isR, isR_cat aref_isR]; done)) (Nat.le_refl _) (Nat.le_refl _) ?_
  refine gx_ifb_ne (tgt := 10) hC dX7_endurance_5 (by decide) (fun c_5 => ?_) (fun c_5 => ?_)
  · refine gx_aload_n (i := 0) hC dX7_endurance_10 rfl rfl (by first | exact Or.inr ⟨_, rfl⟩ | exact Or.inl rfl | exact kv_isR | exact aref_isR) ?_
    refine gx_getR hC dX7_endurance_11 fl_X7_7 (by first | exact gM.at215 | exact gM.at216 | exact gM.at217 | exact gM.at218 | exact gM.at219 | exact gM.at220 | exact gM.at221 | exact gM.at222 | exact gM.at223 | exact gM.at224 | exact gM.at225) rfl (gM.r216) (by decide) ?_
    refine gx_iload_n (i := 1) hC dX7_endurance_14 rfl rfl ?_
    refine gx_callS1 hC dX7_endurance_15 (c_X7_at _ _ _) kY_X7_at kS_X7_at ml_X7_52 (by decide) rfl rfl rfl (by first | exact Nat.le_of_ble_eq_true rfl | (simp [Value.category, isR_cat kv_isR, isR_cat aref_isR]; done)) (Nat.le_refl _) (Nat.le_refl _) ?_
    refine gx_iconst (v := nI 2) hC dX7_endurance_18 ic_2n ?_
    refine gx_iadd hC dX7_endurance_19 ?_
    rw [nI_add]
    refine gx_iald hC dX7_endurance_20 (by first | exact gM.at215 | exact gM.at216 | exact gM.at217 | exact gM.at218 | exact gM.at219 | exact gM.at220 | exact gM.at221 | exact gM.at222 | exact gM.at223 | exact gM.at224 | exact gM.at225) (by exact vpn (by omega) (by decide)) (pRn (by omega)) ?_
    refine gx_if_eq (tgt := 27) hC dX7_endurance_21 (by decide) (fun c_21 => ?_) (fun c_21 => ?_)
    · refine gx_aload_n (i := 0) hC dX7_endurance_27 rfl rfl (by first | exact Or.inr ⟨_, rfl⟩ | exact Or.inl rfl | exact kv_isR | exact aref_isR) ?_
      refine gx_getR hC dX7_endurance_28 fl_X7_7 (by first | exact gM.at215 | exact gM.at216 | exact gM.at217 | exact gM.at218 | exact gM.at219 | exact gM.at220 | exact gM.at221 | exact gM.at222 | exact gM.at223 | exact gM.at224 | exact gM.at225) rfl (gM.r216) (by decide) ?_
      refine gx_iload_n (i := 1) hC dX7_endurance_31 rfl rfl ?_
      refine gx_callS1 hC dX7_endurance_32 (c_X7_at _ _ _) kY_X7_at kS_X7_at ml_X7_52 (by decide) rfl rfl rfl (by first | exact Nat.le_of_ble_eq_true rfl | (simp [Value.category, isR_cat kv_isR, isR_cat aref_isR]; done)) (Nat.le_refl _) (Nat.le_refl _) ?_
      refine gx_iconst (v := nI 1) hC dX7_endurance_35 ic_1n ?_
      refine gx_iadd hC dX7_endurance_36 ?_
      rw [nI_add]
      refine gx_iald hC dX7_endurance_37 (by first | exact gM.at215 | exact gM.at216 | exact gM.at217 | exact gM.at218 | exact gM.at219 | exact gM.at220 | exact gM.at221 | exact gM.at222 | exact gM.at223 | exact gM.at224 | exact gM.at225) (by exact vpn (by omega) (by decide)) (pRn (by omega)) ?_
      refine gx_aload_n (i := 0) hC dX7_endurance_38 rfl rfl (by first | exact Or.inr ⟨_, rfl⟩ | exact Or.inl rfl | exact kv_isR | exact aref_isR) ?_
      refine gx_getR hC dX7_endurance_39 fl_X7_35 (by first | exact gM.at215 | exact gM.at216 | exact gM.at217 | exact gM.at218 | exact gM.at219 | exact gM.at220 | exact gM.at221 | exact gM.at222 | exact gM.at223 | exact gM.at224 | exact gM.at225) rfl (gM.r224) (by decide) ?_
      refine gx_aload_n (i := 0) hC dX7_endurance_42 rfl rfl (by first | exact Or.inr ⟨_, rfl⟩ | exact Or.inl rfl | exact kv_isR | exact aref_isR) ?_
      refine gx_getR hC dX7_endurance_43 fl_X7_7 (by first | exact gM.at215 | exact gM.at216 | exact gM.at217 | exact gM.at218 | exact gM.at219 | exact gM.at220 | exact gM.at221 | exact gM.at222 | exact gM.at223 | exact gM.at224 | exact gM.at225) rfl (gM.r216) (by decide) ?_
      refine gx_iload_n (i := 1) hC dX7_endurance_46 rfl rfl ?_
      refine gx_callS1 hC dX7_endurance_47 (c_X7_at _ _ _) kY_X7_at kS_X7_at ml_X7_52 (by decide) rfl rfl rfl (by first | exact Nat.le_of_ble_eq_true rfl | (simp [Value.category, isR_cat kv_isR, isR_cat aref_isR]; done)) (Nat.le_refl _) (Nat.le_refl _) ?_
      refine gx_iald hC dX7_endurance_50 (by first | exact gM.at215 | exact gM.at216 | exact gM.at217 | exact gM.at218 | exact gM.at219 | exact gM.at220 | exact gM.at221 | exact gM.at222 | exact gM.at223 | exact gM.at224 | exact gM.at225) (by exact vpn (by omega) (by decide)) (pRn (by omega)) ?_
      refine gx_iald hC dX7_endurance_51 (by first | exact gM.at215 | exact gM.at216 | exact gM.at217 | exact gM.at218 | exact gM.at219 | exact gM.at220 | exact gM.at221 | exact gM.at222 | exact gM.at223 | exact gM.at224 | exact gM.at225) (by exact hk_in (hW.kd hj)) ((pRo (by decide)).trans ((hR3 _ (hW.kd hj)).2.1)) ?_
      refine gx_isub hC dX7_endurance_52 ?_
      refine gx_istore_n (i := 2) (L' := [_, _, _, _]) hC dX7_endurance_53 rfl (Nat.le_of_ble_eq_true rfl) rfl (fun u h9 => by first | exact Or.inl rfl | (cases h9; done) | (right; cases h9; first | rfl | exact isR_cat aref_isR | exact isR_cat kv_isR)) ?_
      refine gx_aload_n (i := 0) hC dX7_endurance_54 rfl rfl (by first | exact Or.inr ⟨_, rfl⟩ | exact Or.inl rfl | exact kv_isR | exact aref_isR) ?_
      refine gx_iload_n (i := 1) hC dX7_endurance_55 rfl rfl ?_
      refine gx_aload_n (i := 0) hC dX7_endurance_56 rfl rfl (by first | exact Or.inr ⟨_, rfl⟩ | exact Or.inl rfl | exact kv_isR | exact aref_isR) ?_
      refine gx_getR hC dX7_endurance_57 fl_X7_7 (by first | exact gM.at215 | exact gM.at216 | exact gM.at217 | exact gM.at218 | exact gM.at219 | exact gM.at220 | exact gM.at221 | exact gM.at222 | exact gM.at223 | exact gM.at224 | exact gM.at225) rfl (gM.r216) (by decide) ?_
      refine gx_iload_n (i := 1) hC dX7_endurance_60 rfl rfl ?_
      refine gx_callS1 hC dX7_endurance_61 (c_X7_at _ _ _) kY_X7_at kS_X7_at ml_X7_52 (by decide) rfl rfl rfl (by first | exact Nat.le_of_ble_eq_true rfl | (simp [Value.category, isR_cat kv_isR, isR_cat aref_isR]; done)) (Nat.le_refl _) (Nat.le_refl _) ?_
      refine gx_iconst (v := nI 3) hC dX7_endurance_64 ic_3n ?_
      refine gx_iadd hC dX7_endurance_65 ?_
      rw [nI_add]
      refine gx_iald hC dX7_endurance_66 (by first | exact gM.at215 | exact gM.at216 | exact gM.at217 | exact gM.at218 | exact gM.at219 | exact gM.at220 | exact gM.at221 | exact gM.at222 | exact gM.at223 | exact gM.at224 | exact gM.at225) (by exact vpn (by omega) (by decide)) (pRn (by omega)) ?_
      refine gx_callV1 hC dX7_endurance_67 (c_X7_burn _ _ gM hW hR3 (by omega) _) kY_X7_burn kV_X7_burn ml_X7_91 (by first | exact gM.at215 | exact gM.at216 | exact gM.at217 | exact gM.at218 | exact gM.at219 | exact gM.at220 | exact gM.at221 | exact gM.at222 | exact gM.at223 | exact gM.at224 | exact gM.at225) rfl (by decide) rfl rfl rfl (by first | exact Nat.le_of_ble_eq_true rfl | (simp [Value.category, isR_cat kv_isR, isR_cat aref_isR]; done)) (Nat.le_refl _) (Nat.le_refl _) ?_
      refine gx_istore_n (i := 3) (L' := [_, _, _, _]) hC dX7_endurance_70 rfl (Nat.le_of_ble_eq_true rfl) rfl (fun u h9 => by first | exact Or.inl rfl | (cases h9; done) | (right; cases h9; first | rfl | exact isR_cat aref_isR | exact isR_cat kv_isR)) ?_
      refine gx_iload_n (i := 2) hC dX7_endurance_71 rfl rfl ?_
      refine gx_if_gt (tgt := 79) hC dX7_endurance_72 (by decide) (fun c_72 => ?_) (fun c_72 => ?_)
      · refine gx_iload_n (i := 2) hC dX7_endurance_79 rfl rfl ?_
        refine gx_iload_n (i := 3) hC dX7_endurance_80 rfl rfl ?_
        refine gx_iadd hC dX7_endurance_81 ?_
        refine gx_iconst (v := 1) hC dX7_endurance_82 ic_1 ?_
        refine gx_isub hC dX7_endurance_83 ?_
        refine gx_iload_n (i := 3) hC dX7_endurance_84 rfl rfl ?_
        refine gx_idiv hC dX7_endurance_85 (hne) ?_
        exact gx_iret hC hQ dX7_endurance_86 ((by rw [mEu, if_neg (fun q => q c_21), if_neg (Int32.not_le.mpr c_72)])) (rfl) rfl
      · refine gx_iconst (v := 0) hC dX7_endurance_75 ic_0 ?_
        refine gx_goto (tgt := 86) hC dX7_endurance_76 (by decide) ?_
        exact gx_iret hC hQ dX7_endurance_86 ((by rw [mEu, if_neg (fun q => q c_21), if_pos (Int32.not_lt.mp c_72)])) (rfl) rfl
    · refine gx_bipush (v := -3) hC dX7_endurance_24 bp_m3 ?_
      exact gx_iret hC hQ dX7_endurance_26 ((by rw [mEu, if_pos c_21])) (rfl) rfl
  · exact absurd ((mCr_n hW hj).symm.trans c_5) (by decide)
set_option maxHeartbeats 4000000 in
set_option maxRecDepth 20000 in
theorem c0_X7_endurance (l : Launch) (z : hZt) {n : Nat} {M : hMem} {R : hRef} (gM : gMd n R) {v : Nat → Int32} {x : Int32} (hx : mCr v x = false) : hCt l z m_X7_endurance [.ref (z.1 + 215), .int x] n (putRow M 216 v) R n (some (.int (-1))) (putRow M 216 v) R := by
  refine hs_start [some (.ref (z.1 + 215)), some (.int x), none, none] (by decide +kernel) rfl (by intro u hu; simp at hu; rcases hu with rfl | rfl <;> first | rfl | exact isR_cat kv_isR | exact isR_cat aref_isR) (Nat.le_of_ble_eq_true rfl) (Nat.le_refl _) (fun X hlX hN hC hQ => ?_)
  dsimp only at hC hQ
  refine gx_aload_n (i := 0) hC dX7_endurance_0 rfl rfl (by first | exact Or.inr ⟨_, rfl⟩ | exact Or.inl rfl | exact kv_isR | exact aref_isR) ?_
  refine gx_iload_n (i := 1) hC dX7_endurance_1 rfl rfl ?_
  refine gx_callV1 hC dX7_endurance_2 (c_X7_isCraft _ _ gM _) kY_X7_isCraft kV_X7_isCraft ml_X7_85 (by first | exact gM.at215 | exact gM.at216 | exact gM.at217 | exact gM.at218 | exact gM.at219 | exact gM.at220 | exact gM.at221 | exact gM.at222 | exact gM.at223 | exact gM.at224 | exact gM.at225) rfl (by decide) rfl rfl rfl (by first | exact Nat.le_of_ble_eq_true rfl | (simp [Value.category, isR_cat kv_isR, isR_cat aref_isR]; done)) (Nat.le_refl _) (Nat.le_refl _) ?_
  refine gx_ifb_ne (tgt := 10) hC dX7_endurance_5 (by decide) (fun c_5 => ?_) (fun c_5 => ?_)
  · exact absurd (hx.symm.trans c_5) (by decide)
  · refine gx_iconst (v := -1) hC dX7_endurance_8 ic_m1 ?_
    exact gx_iret hC hQ dX7_endurance_9 (rfl) (rfl) rfl
def mLx (v : Nat → Int32) (lv c : Nat) : Nat → Nat → Int32 → Option Nat
  | 0, _, _ => none
  | f + 1, n, l => match mPa (mGo v lv c n) c with
    | some a => if l = 0 then some a else mLx v lv c f (n + 1) (l - 1)
    | none => mLx v lv c f (n + 1) (l - 0)
theorem mLx_lt {v : Nat → Int32} {lv c f n j : Nat} {l : Int32} (h : mLx v lv c f n l = some j) : j < c := by
  induction f generalizing n l with
  | zero => cases h
  | succ f ih =>
    rw [mLx] at h
    split at h
    · next a ha =>
      split at h
      · cases h; exact mPa_lt ha
      · exact ih h
    · exact ih h
set_option maxHeartbeats 4000000 in
set_option maxRecDepth 20000 in
theorem c0_X7_lands (l : Launch) (z : hZt) {n : Nat} {M : hMem} {R : hRef} (gM : gMd n R) {v : Nat → Int32} {x : Int32} (hx : x < 0) : hCt l z m_X7_lands [.ref (z.1 + 215), .int x] n (putRow M 216 v) R n (some (.int (-1))) (putRow M 216 v) R := by
  refine hs_start [some (.ref (z.1 + 215)), some (.int x), none, none, none, none] (by decide +kernel) rfl (by intro u hu; simp at hu; rcases hu with rfl | rfl <;> first | rfl | exact isR_cat kv_isR | exact isR_cat aref_isR) (Nat.le_of_ble_eq_true rfl) (Nat.le_refl _) (fun X hlX hN hC hQ => ?_)
  dsimp only at hC hQ
  refine gx_iload_n (i := 1) hC dX7_lands_0 rfl rfl ?_
  refine gx_if_ge (tgt := 6) hC dX7_lands_1 (by decide) (fun c_1 => ?_) (fun c_1 => ?_)
  · exact absurd c_1 (Int32.not_le.mpr hx)
  · refine gx_iconst (v := -1) hC dX7_lands_4 ic_m1 ?_
    exact gx_iret hC hQ dX7_lands_5 (rfl) (rfl) rfl
set_option maxHeartbeats 4000000 in
set_option maxRecDepth 20000 in
theorem c_X7_lands (l : Launch) (z : hZt) {n : Nat} {M : hMem} {R : hRef} (gM : gMd n R) {v : Nat → Int32} {lv c : Nat} (hW : MW v lv c) (hR3 : CR M) (hl1 : 1 ≤ lv) {x : Int32} (hx : ¬ x < 0) : hCt l z m_X7_lands [.ref (z.1 + 215), .int x] n (putRow M 216 v) R n (some (.int (oI (mLx v lv c 600 0 x)))) (putRow (putRow M 218 (cpy (M 218) 0 v 154)) 216 v) R := by
  refine hs_start [some (.ref (z.1 + 215)), some (.int x), none, none, none, none] (by decide +kernel) rfl (by intro u hu; simp at hu; rcases hu with rfl | rfl <;> first | rfl | exact isR_cat kv_isR | exact isR_cat aref_isR) (Nat.le_of_ble_eq_true rfl) (Nat.le_refl _) (fun X hlX hN hC hQ => ?_)
  dsimp only at hC hQ
  have hc20 := hW.c20
  have hl16 := hW.l16
  refine gx_iload_n (i := 1) hC dX7_lands_0 rfl rfl ?_
  refine gx_if_ge (tgt := 6) hC dX7_lands_1 (by decide) (fun c_1 => ?_) (fun c_1 => ?_)
  · refine gx_aload_n (i := 0) hC dX7_lands_6 rfl rfl (by first | exact Or.inr ⟨_, rfl⟩ | exact Or.inl rfl | exact kv_isR | exact aref_isR) ?_
    refine gx_aload_n (i := 0) hC dX7_lands_7 rfl rfl (by first | exact Or.inr ⟨_, rfl⟩ | exact Or.inl rfl | exact kv_isR | exact aref_isR) ?_
    refine gx_getR hC dX7_lands_8 fl_X7_16 (by first | exact gM.at215 | exact gM.at216 | exact gM.at217 | exact gM.at218 | exact gM.at219 | exact gM.at220 | exact gM.at221 | exact gM.at222 | exact gM.at223 | exact gM.at224 | exact gM.at225) rfl (gM.r218) (by decide) ?_
    refine gx_callV0 hC dX7_lands_11 (c_X7_keeps _ _ gM) kY_X7_keeps kV_X7_keeps ml_X7_134 (by first | exact gM.at215 | exact gM.at216 | exact gM.at217 | exact gM.at218 | exact gM.at219 | exact gM.at220 | exact gM.at221 | exact gM.at222 | exact gM.at223 | exact gM.at224 | exact gM.at225) rfl (by decide) rfl rfl rfl (by first | exact Nat.le_of_ble_eq_true rfl | (simp [Value.category, isR_cat kv_isR, isR_cat aref_isR]; done)) (Nat.le_refl _) (Nat.le_refl _) ?_
    refine gx_iload_n (i := 1) hC dX7_lands_14 rfl rfl ?_
    refine gx_istore_n (i := 2) (L' := [_, _, _, _, _, _]) hC dX7_lands_15 rfl (Nat.le_of_ble_eq_true rfl) rfl (fun u h9 => by first | exact Or.inl rfl | (cases h9; done) | (right; cases h9; first | rfl | exact isR_cat aref_isR | exact isR_cat kv_isR)) ?_
    refine gx_bipush (v := -6) hC dX7_lands_16 bp_m6 ?_
    refine gx_istore_n (i := 3) (L' := [_, _, _, _, _, _]) hC dX7_lands_18 rfl (Nat.le_of_ble_eq_true rfl) rfl (fun u h9 => by first | exact Or.inl rfl | (cases h9; done) | (right; cases h9; first | rfl | exact isR_cat aref_isR | exact isR_cat kv_isR)) ?_
    refine gx_iconst (v := nI 0) hC dX7_lands_19 ic_0n ?_
    refine gx_istore (i := 4) (L' := [_, _, _, _, _, _]) hC dX7_lands_20 (Nat.le_of_ble_eq_true rfl) rfl (fun u h9 => by first | exact Or.inl rfl | (cases h9; done) | (right; cases h9; first | rfl | exact isR_cat aref_isR | exact isR_cat kv_isR)) ?_
    have loop_22 : ∀ (k : Nat) (a : Nat) (q : Option Nat) (lf : Int32) (u5 : Option Value), 600 - a < k → a ≤ 600 → (q ≠ none ∧ mLx v lv c 600 0 x = q ∨ q = none ∧ mLx v lv c (600 - a) a lf = mLx v lv c 600 0 x) → hG z n X n (putRow (putRow M 218 (cpy (M 218) 0 v 154)) 216 (mGo v lv c a)) R 22 [some (.ref (z.1 + 215)), some (.int x), some (.int lf), some (.int (oI q)), some (.int (nI a)), u5] [] := by
      intro k
      induction k with
      | zero => intros; omega
      | succ k ih =>
        intro a q lf u5 hk1 ha hq
        refine gx_iload hC dX7_lands_22 rfl ?_
        refine gx_sipush (v := nI 600) hC dX7_lands_24 sp_600n ?_
        refine gx_icmp_ge (tgt := 76) hC dX7_lands_27 (by decide) (fun c_27 => ?_) (fun c_27 => ?_)
        · have d_27 := cle (by omega) (by omega) c_27
          have hRES : q = mLx v lv c 600 0 x := by
            rcases hq with hq | hq
            · exact hq.2.symm
            · rw [hq.1, ← hq.2, show 600 - a = 0 by omega]; rfl
          refine gx_aload_n (i := 0) hC dX7_lands_76 rfl rfl (by first | exact Or.inr ⟨_, rfl⟩ | exact Or.inl rfl | exact kv_isR | exact aref_isR) ?_
          refine gx_callV0 hC dX7_lands_77 (b_comesBack _ _ gM (by funext k2; exact pRs) (hEq.rfl'.go hW.c20 _)) kY_X7_comesBack kV_X7_comesBack ml_X7_142 (by first | exact gM.at215 | exact gM.at216 | exact gM.at217 | exact gM.at218 | exact gM.at219 | exact gM.at220 | exact gM.at221 | exact gM.at222 | exact gM.at223 | exact gM.at224 | exact gM.at225) rfl (by decide) rfl rfl rfl (by first | exact Nat.le_of_ble_eq_true rfl | (simp [Value.category, isR_cat kv_isR, isR_cat aref_isR]; done)) (Nat.le_refl _) (Nat.le_refl _) ?_
          refine gx_iload_n (i := 3) hC dX7_lands_80 rfl rfl ?_
          exact gx_iret hC hQ dX7_lands_81 ((by rw [hRES])) (rfl) rfl
        · have d_27 := cnle (by omega) (by omega) c_27
          refine gx_iload_n (i := 3) hC dX7_lands_30 rfl rfl ?_
          refine gx_if_ge (tgt := 76) hC dX7_lands_31 (by decide) (fun c_31 => ?_) (fun c_31 => ?_)
          · have hRES : q = mLx v lv c 600 0 x := by
              rcases hq with hq | hq
              · exact hq.2.symm
              · rw [hq.1] at c_31; exact absurd (show (0 : Int32) ≤ -6 from c_31) (by decide)
            refine gx_aload_n (i := 0) hC dX7_lands_76 rfl rfl (by first | exact Or.inr ⟨_, rfl⟩ | exact Or.inl rfl | exact kv_isR | exact aref_isR) ?_
            refine gx_callV0 hC dX7_lands_77 (b_comesBack _ _ gM (by funext k2; exact pRs) (hEq.rfl'.go hW.c20 _)) kY_X7_comesBack kV_X7_comesBack ml_X7_142 (by first | exact gM.at215 | exact gM.at216 | exact gM.at217 | exact gM.at218 | exact gM.at219 | exact gM.at220 | exact gM.at221 | exact gM.at222 | exact gM.at223 | exact gM.at224 | exact gM.at225) rfl (by decide) rfl rfl rfl (by first | exact Nat.le_of_ble_eq_true rfl | (simp [Value.category, isR_cat kv_isR, isR_cat aref_isR]; done)) (Nat.le_refl _) (Nat.le_refl _) ?_
            refine gx_iload_n (i := 3) hC dX7_lands_80 rfl rfl ?_
            exact gx_iret hC hQ dX7_lands_81 ((by rw [hRES])) (rfl) rfl
          · have hqj : ∀ j, q = some j → j < 20 := by
              intro j e
              rcases hq with hq | hq
              · have := mLx_lt (hq.2.trans e)
                omega
              · rw [hq.1] at e
                cases e
            have hq0 : q = none := oI_n0 (Int32.not_le.mp c_31) hqj
            have hq1 : mLx v lv c (600 - a) a lf = mLx v lv c 600 0 x := by
              rcases hq with hq | hq
              · exact absurd hq0 hq.1
              · exact hq.2
            rw [show 600 - a = (600 - (a + 1)) + 1 by omega, mLx] at hq1
            refine gx_aload_n (i := 0) hC dX7_lands_34 rfl rfl (by first | exact Or.inr ⟨_, rfl⟩ | exact Or.inl rfl | exact kv_isR | exact aref_isR) ?_
            refine gx_callV1 hC dX7_lands_35 (c_X7_passes _ _ gM (hW.go a) (hR3.row (by decide)) hl1) kY_X7_passes kV_X7_passes ml_X7_110 (by first | exact gM.at215 | exact gM.at216 | exact gM.at217 | exact gM.at218 | exact gM.at219 | exact gM.at220 | exact gM.at221 | exact gM.at222 | exact gM.at223 | exact gM.at224 | exact gM.at225) rfl (by decide) rfl rfl rfl (by first | exact Nat.le_of_ble_eq_true rfl | (simp [Value.category, isR_cat kv_isR, isR_cat aref_isR]; done)) (Nat.le_refl _) (Nat.le_refl _) ?_
            refine gx_istore (i := 5) (L' := [_, _, _, _, _, _]) hC dX7_lands_38 (Nat.le_of_ble_eq_true rfl) rfl (fun u h9 => by first | exact Or.inl rfl | (cases h9; done) | (right; cases h9; first | rfl | exact isR_cat aref_isR | exact isR_cat kv_isR)) ?_
            refine gx_iload hC dX7_lands_40 rfl ?_
            refine gx_if_lt (tgt := 54) hC dX7_lands_42 (by decide) (fun c_42 => ?_) (fun c_42 => ?_)
            · have e7 := oI_n0 c_42 (fun j e => by have := mPa_lt e; omega)
              rw [e7] at hq1
              simp only at hq1
              refine gx_bipush (v := -6) hC dX7_lands_54 bp_m6 ?_
              refine gx_istore_n (i := 3) (L' := [_, _, _, _, _, _]) hC dX7_lands_56 rfl (Nat.le_of_ble_eq_true rfl) rfl (fun u h9 => by first | exact Or.inl rfl | (cases h9; done) | (right; cases h9; first | rfl | exact isR_cat aref_isR | exact isR_cat kv_isR)) ?_
              refine gx_iload_n (i := 2) hC dX7_lands_57 rfl rfl ?_
              refine gx_iload hC dX7_lands_58 rfl ?_
              refine gx_if_lt (tgt := 67) hC dX7_lands_60 (by decide) (fun c_60 => ?_) (fun c_60 => ?_)
              · refine gx_iconst (v := 0) hC dX7_lands_67 ic_0 ?_
                refine gx_isub hC dX7_lands_68 ?_
                refine gx_istore_n (i := 2) (L' := [_, _, _, _, _, _]) hC dX7_lands_69 rfl (Nat.le_of_ble_eq_true rfl) rfl (fun u h9 => by first | exact Or.inl rfl | (cases h9; done) | (right; cases h9; first | rfl | exact isR_cat aref_isR | exact isR_cat kv_isR)) ?_
                refine gx_iinc (i := 4) (L' := [_, _, _, _, _, _]) hC dX7_lands_70 rfl (ii_1 _) (Nat.le_of_ble_eq_true rfl) rfl (fun u h9 => by first | exact Or.inl rfl | (cases h9; done) | (right; cases h9; first | rfl | exact isR_cat aref_isR | exact isR_cat kv_isR)) ?_
                refine gx_goto (tgt := 22) hC dX7_lands_73 (by decide) ?_
                exact ih (a + 1) none (lf - 0) (some (.int (oI (mPa (mGo v lv c a) c)))) (by omega) (by omega) (Or.inr ⟨rfl, hq1⟩)
              · exact absurd c_42 c_60
            · obtain ⟨b, e7⟩ := oI_s0 c_42
              rw [e7] at hq1
              simp only at hq1
              refine gx_iload_n (i := 2) hC dX7_lands_45 rfl rfl ?_
              refine gx_if_ne (tgt := 54) hC dX7_lands_46 (by decide) (fun c_46 => ?_) (fun c_46 => ?_)
              · refine gx_bipush (v := -6) hC dX7_lands_54 bp_m6 ?_
                refine gx_istore_n (i := 3) (L' := [_, _, _, _, _, _]) hC dX7_lands_56 rfl (Nat.le_of_ble_eq_true rfl) rfl (fun u h9 => by first | exact Or.inl rfl | (cases h9; done) | (right; cases h9; first | rfl | exact isR_cat aref_isR | exact isR_cat kv_isR)) ?_
                refine gx_iload_n (i := 2) hC dX7_lands_57 rfl rfl ?_
                refine gx_iload hC dX7_lands_58 rfl ?_
                refine gx_if_lt (tgt := 67) hC dX7_lands_60 (by decide) (fun c_60 => ?_) (fun c_60 => ?_)
                · exact absurd c_60 c_42
                · refine gx_iconst (v := 1) hC dX7_lands_63 ic_1 ?_
                  refine gx_goto (tgt := 68) hC dX7_lands_64 (by decide) ?_
                  refine gx_isub hC dX7_lands_68 ?_
                  refine gx_istore_n (i := 2) (L' := [_, _, _, _, _, _]) hC dX7_lands_69 rfl (Nat.le_of_ble_eq_true rfl) rfl (fun u h9 => by first | exact Or.inl rfl | (cases h9; done) | (right; cases h9; first | rfl | exact isR_cat aref_isR | exact isR_cat kv_isR)) ?_
                  refine gx_iinc (i := 4) (L' := [_, _, _, _, _, _]) hC dX7_lands_70 rfl (ii_1 _) (Nat.le_of_ble_eq_true rfl) rfl (fun u h9 => by first | exact Or.inl rfl | (cases h9; done) | (right; cases h9; first | rfl | exact isR_cat aref_isR | exact isR_cat kv_isR)) ?_
                  refine gx_goto (tgt := 22) hC dX7_lands_73 (by decide) ?_
                  rw [if_neg c_46] at hq1
                  exact ih (a + 1) none (lf - 1) (some (.int (oI (mPa (mGo v lv c a) c)))) (by omega) (by omega) (Or.inr ⟨rfl, hq1⟩)
              · refine gx_iload hC dX7_lands_49 rfl ?_
                refine gx_goto (tgt := 56) hC dX7_lands_51 (by decide) ?_
                refine gx_istore_n (i := 3) (L' := [_, _, _, _, _, _]) hC dX7_lands_56 rfl (Nat.le_of_ble_eq_true rfl) rfl (fun u h9 => by first | exact Or.inl rfl | (cases h9; done) | (right; cases h9; first | rfl | exact isR_cat aref_isR | exact isR_cat kv_isR)) ?_
                refine gx_iload_n (i := 2) hC dX7_lands_57 rfl rfl ?_
                refine gx_iload hC dX7_lands_58 rfl ?_
                refine gx_if_lt (tgt := 67) hC dX7_lands_60 (by decide) (fun c_60 => ?_) (fun c_60 => ?_)
                · exact absurd c_60 c_42
                · refine gx_iconst (v := 1) hC dX7_lands_63 ic_1 ?_
                  refine gx_goto (tgt := 68) hC dX7_lands_64 (by decide) ?_
                  refine gx_isub hC dX7_lands_68 ?_
                  refine gx_istore_n (i := 2) (L' := [_, _, _, _, _, _]) hC dX7_lands_69 rfl (Nat.le_of_ble_eq_true rfl) rfl (fun u h9 => by first | exact Or.inl rfl | (cases h9; done) | (right; cases h9; first | rfl | exact isR_cat aref_isR | exact isR_cat kv_isR)) ?_
                  refine gx_iinc (i := 4) (L' := [_, _, _, _, _, _]) hC dX7_lands_70 rfl (ii_1 _) (Nat.le_of_ble_eq_true rfl) rfl (fun u h9 => by first | exact Or.inl rfl | (cases h9; done) | (right; cases h9; first | rfl | exact isR_cat aref_isR | exact isR_cat kv_isR)) ?_
                  refine gx_goto (tgt := 22) hC dX7_lands_73 (by decide) ?_
                  rw [if_pos c_46] at hq1
                  exact ih (a + 1) (mPa (mGo v lv c a) c) (lf - 1) (some (.int (oI (mPa (mGo v lv c a) c)))) (by omega) (by omega) (Or.inl ⟨by rw [e7]; exact Option.some_ne_none b, by rw [e7]; exact hq1.symm⟩)
    exact loop_22 601 0 none x none (by omega) (by omega) (Or.inr ⟨rfl, rfl⟩)
  · exact absurd (Int32.not_le.mp c_1) hx
