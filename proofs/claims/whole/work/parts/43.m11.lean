/-! the model: texts read and run -/
def mTx (s : Nat → Int32) (L : Nat) : Nat → Nat → Bool × Nat
  | 0, p => (true, p)
  | f + 1, p => if L ≤ p then (true, p) else if (mSb s L p).1 = false then (false, (mSb s L p).2) else
      if mTk s L (mSb s L p).2 59 = false then (false, (mSb s L p).2) else mTx s L f ((mSb s L p).2 + 1)
def mTT (s : Nat → Int32) (L : Nat) : Nat → (Nat → Int32) → Nat → Nat → Int32
  | 0, t, _ => t
  | f + 1, t, p => if L ≤ p then t else if (mSb s L p).1 = false then mSk s L t p else
      if mTk s L (mSb s L p).2 59 = false then mSk s L t p else mTT s L f (mSk s L t p) ((mSb s L p).2 + 1)
theorem mTx_p {s : Nat → Int32} {L f p : Nat} (hp : p ≤ L) : (mTx s L f p).2 ≤ L := by
  induction f generalizing p with
  | zero => exact hp
  | succ f ih =>
    rw [mTx]
    split
    · exact hp
    · split
      · exact (mSb_p hp).2.1
      · split
        · exact (mSb_p hp).2.1
        · next h1 h2 h3 => exact ih (mTk_p (by decide) ((Bool.not_eq_false _).mp h3))
set_option maxHeartbeats 4000000 in
set_option maxRecDepth 20000 in
theorem c_X7_isText (l : Launch) (z : hZt) {n : Nat} {M : hMem} {R : hRef} (gM : gMd n R) {s : Nat → Int32} {L : Nat} (hs : M 221 = s) (hL : M 215 7 = nI L) (hL8 : L ≤ 80) {t0 : Nat → Int32} {p0 : Nat} : hCt l z m_X7_isText [.ref (z.1 + 215)] n (pMm M t0 p0) R n (some (.int (b2 (mTx s L 81 0).1))) (pMm M (mTT s L 81 t0 0) (mTx s L 81 0).2) R := by
  refine hs_start [some (.ref (z.1 + 215)), none] (by decide +kernel) rfl (by intro u hu; simp at hu; subst hu <;> first | rfl | exact isR_cat kv_isR | exact isR_cat aref_isR) (Nat.le_of_ble_eq_true rfl) (Nat.le_refl _) (fun X hlX hN hC hQ => ?_)
  dsimp only at hC hQ
  refine gx_aload_n (i := 0) hC dX7_isText_0 rfl rfl (by first | exact Or.inr ⟨_, rfl⟩ | exact Or.inl rfl | exact kv_isR | exact aref_isR) ?_
  refine gx_iconst (v := nI 0) hC dX7_isText_1 ic_0n ?_
  refine gx_putI hC dX7_isText_2 fl_X7_154 (by first | exact gM.at215 | exact gM.at216 | exact gM.at217 | exact gM.at218 | exact gM.at219 | exact gM.at220 | exact gM.at221 | exact gM.at222 | exact gM.at223 | exact gM.at224 | exact gM.at225) fn_6_8 rfl (pMm_p) ?_
  refine gx_iconst (v := 1) hC dX7_isText_5 ic_1 ?_
  refine gx_istore_n (i := 1) (L' := [_, _]) hC dX7_isText_6 rfl (Nat.le_of_ble_eq_true rfl) rfl (fun u h9 => by first | exact Or.inl rfl | (cases h9; done) | (right; cases h9; first | rfl | exact isR_cat aref_isR | exact isR_cat kv_isR)) ?_
  have loop_7 : ∀ (k : Nat) (f p : Nat) (t : Nat → Int32), f < k → p ≤ L → L - p < f → mTx s L f p = mTx s L 81 0 → mTT s L f t p = mTT s L 81 t0 0 → hG z n X n (pMm M t p) R 7 [some (.ref (z.1 + 215)), some (.int 1)] [] := by
    intro k
    induction k with
    | zero => intros; omega
    | succ k ih =>
      intro f p t hk1 hp hf hX hT
      obtain ⟨f, rfl⟩ : ∃ f1, f = f1 + 1 := ⟨f - 1, by omega⟩
      rw [mTx] at hX
      rw [mTT] at hT
      refine gx_iload_n (i := 1) hC dX7_isText_7 rfl rfl ?_
      refine gx_if_eq (tgt := 47) hC dX7_isText_8 (by decide) (fun c_8 => ?_) (fun c_8 => ?_)
      · exact absurd c_8 (by decide)
      · refine gx_aload_n (i := 0) hC dX7_isText_11 rfl rfl (by first | exact Or.inr ⟨_, rfl⟩ | exact Or.inl rfl | exact kv_isR | exact aref_isR) ?_
        refine gx_getI hC dX7_isText_12 fl_X7_154 (by first | exact gM.at215 | exact gM.at216 | exact gM.at217 | exact gM.at218 | exact gM.at219 | exact gM.at220 | exact gM.at221 | exact gM.at222 | exact gM.at223 | exact gM.at224 | exact gM.at225) (by decide) (pMm_8) ?_
        refine gx_aload_n (i := 0) hC dX7_isText_15 rfl rfl (by first | exact Or.inr ⟨_, rfl⟩ | exact Or.inl rfl | exact kv_isR | exact aref_isR) ?_
        refine gx_getI hC dX7_isText_16 fl_X7_151 (by first | exact gM.at215 | exact gM.at216 | exact gM.at217 | exact gM.at218 | exact gM.at219 | exact gM.at220 | exact gM.at221 | exact gM.at222 | exact gM.at223 | exact gM.at224 | exact gM.at225) (by decide) ((pMm_o (by decide) (by decide)).trans hL) ?_
        refine gx_icmp_ge (tgt := 47) hC dX7_isText_19 (by decide) (fun c_19 => ?_) (fun c_19 => ?_)
        · have d_19 := cle (by omega) (by omega) c_19
          refine gx_iload_n (i := 1) hC dX7_isText_47 rfl rfl ?_
          exact gx_zret hC hQ dX7_isText_48 (by first | exact Or.inl rfl | exact Or.inr rfl | exact b2_bit _ | assumption) ((by rw [if_pos d_19] at hX; rw [← hX]; rfl)) ((by rw [if_pos d_19] at hX hT; rw [← hX, ← hT])) rfl
        · have d_19 := cnle (by omega) (by omega) c_19
          have d9 : ¬ L ≤ p := by omega
          have hsp := mSb_p (s := s) (L := L) (p := p) (by omega)
          refine gx_aload_n (i := 0) hC dX7_isText_22 rfl rfl (by first | exact Or.inr ⟨_, rfl⟩ | exact Or.inl rfl | exact kv_isR | exact aref_isR) ?_
          refine gx_callV1 hC dX7_isText_23 (c_X7_isStrip _ _ gM hs hL hL8 (by omega)) kY_X7_isStrip kV_X7_isStrip ml_X7_169 (by first | exact gM.at215 | exact gM.at216 | exact gM.at217 | exact gM.at218 | exact gM.at219 | exact gM.at220 | exact gM.at221 | exact gM.at222 | exact gM.at223 | exact gM.at224 | exact gM.at225) rfl (by decide) rfl rfl rfl (by first | exact Nat.le_of_ble_eq_true rfl | (simp [Value.category, isR_cat kv_isR, isR_cat aref_isR]; done)) (Nat.le_refl _) (Nat.le_refl _) ?_
          refine gx_ifb_eq (tgt := 42) hC dX7_isText_26 (by decide) (fun c_26 => ?_) (fun c_26 => ?_)
          · refine gx_iconst (v := 0) hC dX7_isText_42 ic_0 ?_
            refine gx_istore_n (i := 1) (L' := [_, _]) hC dX7_isText_43 rfl (Nat.le_of_ble_eq_true rfl) rfl (fun u h9 => by first | exact Or.inl rfl | (cases h9; done) | (right; cases h9; first | rfl | exact isR_cat aref_isR | exact isR_cat kv_isR)) ?_
            refine gx_goto (tgt := 7) hC dX7_isText_44 (by decide) ?_
            refine gx_iload_n (i := 1) hC dX7_isText_7 rfl rfl ?_
            refine gx_if_eq (tgt := 47) hC dX7_isText_8 (by decide) (fun c_8 => ?_) (fun c_8 => ?_)
            · refine gx_iload_n (i := 1) hC dX7_isText_47 rfl rfl ?_
              exact gx_zret hC hQ dX7_isText_48 (by first | exact Or.inl rfl | exact Or.inr rfl | exact b2_bit _ | assumption) ((by rw [if_neg d9, if_pos c_26] at hX; rw [← hX]; rfl)) ((by rw [if_neg d9, if_pos c_26] at hX hT; rw [← hX, ← hT])) rfl
            · exact absurd rfl c_8
          · refine gx_aload_n (i := 0) hC dX7_isText_29 rfl rfl (by first | exact Or.inr ⟨_, rfl⟩ | exact Or.inl rfl | exact kv_isR | exact aref_isR) ?_
            refine gx_bipush (v := 59) hC dX7_isText_30 bp_59 ?_
            refine gx_callV1 hC dX7_isText_32 (c_X7_takes _ _ gM hs hL hL8 (by omega) _ (by decide)) kY_X7_takes kV_X7_takes ml_X7_163 (by first | exact gM.at215 | exact gM.at216 | exact gM.at217 | exact gM.at218 | exact gM.at219 | exact gM.at220 | exact gM.at221 | exact gM.at222 | exact gM.at223 | exact gM.at224 | exact gM.at225) rfl (by decide) rfl rfl rfl (by first | exact Nat.le_of_ble_eq_true rfl | (simp [Value.category, isR_cat kv_isR, isR_cat aref_isR]; done)) (Nat.le_refl _) (Nat.le_refl _) ?_
            refine gx_ifb_eq (tgt := 42) hC dX7_isText_35 (by decide) (fun c_35 => ?_) (fun c_35 => ?_)
            · rw [c_35]
              rw [show (mSb s L p).2 + bN false = (mSb s L p).2 from rfl]
              refine gx_iconst (v := 0) hC dX7_isText_42 ic_0 ?_
              refine gx_istore_n (i := 1) (L' := [_, _]) hC dX7_isText_43 rfl (Nat.le_of_ble_eq_true rfl) rfl (fun u h9 => by first | exact Or.inl rfl | (cases h9; done) | (right; cases h9; first | rfl | exact isR_cat aref_isR | exact isR_cat kv_isR)) ?_
              refine gx_goto (tgt := 7) hC dX7_isText_44 (by decide) ?_
              refine gx_iload_n (i := 1) hC dX7_isText_7 rfl rfl ?_
              refine gx_if_eq (tgt := 47) hC dX7_isText_8 (by decide) (fun c_8 => ?_) (fun c_8 => ?_)
              · refine gx_iload_n (i := 1) hC dX7_isText_47 rfl rfl ?_
                exact gx_zret hC hQ dX7_isText_48 (by first | exact Or.inl rfl | exact Or.inr rfl | exact b2_bit _ | assumption) ((by rw [if_neg d9, if_neg (bqt c_26), if_pos c_35] at hX; rw [← hX]; rfl)) ((by rw [if_neg d9, if_neg (bqt c_26), if_pos c_35] at hX hT; rw [← hX, ← hT])) rfl
              · exact absurd rfl c_8
            · rw [c_35]
              rw [show (mSb s L p).2 + bN true = (mSb s L p).2 + 1 from rfl]
              have h_35 := mTk_p (by decide) c_35
              refine gx_iconst (v := 1) hC dX7_isText_38 ic_1 ?_
              refine gx_goto (tgt := 43) hC dX7_isText_39 (by decide) ?_
              refine gx_istore_n (i := 1) (L' := [_, _]) hC dX7_isText_43 rfl (Nat.le_of_ble_eq_true rfl) rfl (fun u h9 => by first | exact Or.inl rfl | (cases h9; done) | (right; cases h9; first | rfl | exact isR_cat aref_isR | exact isR_cat kv_isR)) ?_
              refine gx_goto (tgt := 7) hC dX7_isText_44 (by decide) ?_
              rw [if_neg d9, if_neg (bqt c_26), if_neg (bqt c_35)] at hX hT
              exact ih f _ _ (by omega) (by omega) (by omega) hX hT
  exact loop_7 82 81 0 t0 (by omega) (by omega) (by omega) rfl rfl
set_option maxHeartbeats 4000000 in
set_option maxRecDepth 20000 in
theorem c_X7_faultPosition (l : Launch) (z : hZt) {n : Nat} {M : hMem} {R : hRef} (gM : gMd n R) {s : Nat → Int32} {L : Nat} (hs : M 221 = s) (hL : M 215 7 = nI L) (hL8 : L ≤ 80) {t0 : Nat → Int32} {p0 : Nat} : hCt l z m_X7_faultPosition [.ref (z.1 + 215)] n (pMm M t0 p0) R n (some (.int (if (mTx s L 81 0).1 = true then -6 else nI (mTx s L 81 0).2))) (pMm M (mTT s L 81 t0 0) (mTx s L 81 0).2) R := by
  refine hs_start [some (.ref (z.1 + 215))] (by decide +kernel) rfl (by intro u hu; simp at hu; subst hu <;> first | rfl | exact isR_cat kv_isR | exact isR_cat aref_isR) (Nat.le_of_ble_eq_true rfl) (Nat.le_refl _) (fun X hlX hN hC hQ => ?_)
  dsimp only at hC hQ
  refine gx_aload_n (i := 0) hC dX7_faultPosition_0 rfl rfl (by first | exact Or.inr ⟨_, rfl⟩ | exact Or.inl rfl | exact kv_isR | exact aref_isR) ?_
  refine gx_callV1 hC dX7_faultPosition_1 (c_X7_isText _ _ gM hs hL hL8) kY_X7_isText kV_X7_isText ml_X7_173 (by first | exact gM.at215 | exact gM.at216 | exact gM.at217 | exact gM.at218 | exact gM.at219 | exact gM.at220 | exact gM.at221 | exact gM.at222 | exact gM.at223 | exact gM.at224 | exact gM.at225) rfl (by decide) rfl rfl rfl (by first | exact Nat.le_of_ble_eq_true rfl | (simp [Value.category, isR_cat kv_isR, isR_cat aref_isR]; done)) (Nat.le_refl _) (Nat.le_refl _) ?_
  refine gx_ifb_eq (tgt := 12) hC dX7_faultPosition_4 (by decide) (fun c_4 => ?_) (fun c_4 => ?_)
  · refine gx_aload_n (i := 0) hC dX7_faultPosition_12 rfl rfl (by first | exact Or.inr ⟨_, rfl⟩ | exact Or.inl rfl | exact kv_isR | exact aref_isR) ?_
    refine gx_getI hC dX7_faultPosition_13 fl_X7_154 (by first | exact gM.at215 | exact gM.at216 | exact gM.at217 | exact gM.at218 | exact gM.at219 | exact gM.at220 | exact gM.at221 | exact gM.at222 | exact gM.at223 | exact gM.at224 | exact gM.at225) (by decide) (pMm_8) ?_
    exact gx_iret hC hQ dX7_faultPosition_16 ((by rw [if_neg (bqf c_4)])) (rfl) rfl
  · refine gx_bipush (v := -6) hC dX7_faultPosition_7 bp_m6 ?_
    refine gx_goto (tgt := 16) hC dX7_faultPosition_9 (by decide) ?_
    exact gx_iret hC hQ dX7_faultPosition_16 ((by rw [if_pos c_4])) (rfl) rfl
set_option maxHeartbeats 4000000 in
set_option maxRecDepth 20000 in
theorem c0_X7_append (l : Launch) (z : hZt) {n : Nat} {M : hMem} {R : hRef} (gM : gMd n R) {x : Int32} (hx : bIn x 32 126 = false) : hCt l z m_X7_append [.ref (z.1 + 215), .int x] n M R n (some (.int (-2))) M R := by
  refine hs_start [some (.ref (z.1 + 215)), some (.int x)] (by decide +kernel) rfl (by intro u hu; simp at hu; rcases hu with rfl | rfl <;> first | rfl | exact isR_cat kv_isR | exact isR_cat aref_isR) (Nat.le_of_ble_eq_true rfl) (Nat.le_refl _) (fun X hlX hN hC hQ => ?_)
  dsimp only at hC hQ
  refine gx_iload_n (i := 1) hC dX7_append_0 rfl rfl ?_
  refine gx_bipush (v := 32) hC dX7_append_1 bp_32 ?_
  refine gx_bipush (v := 126) hC dX7_append_3 bp_126 ?_
  refine gx_callS1 hC dX7_append_5 (c_X7_in _ _ _ _ _) kY_X7_in kS_X7_in ml_X7_41 (by decide) rfl rfl rfl (by first | exact Nat.le_of_ble_eq_true rfl | (simp [Value.category, isR_cat kv_isR, isR_cat aref_isR]; done)) (Nat.le_refl _) (Nat.le_refl _) ?_
  refine gx_ifb_ne (tgt := 14) hC dX7_append_8 (by decide) (fun c_8 => ?_) (fun c_8 => ?_)
  · exact absurd (hx.symm.trans c_8) (by decide)
  · refine gx_bipush (v := -2) hC dX7_append_11 bp_m2 ?_
    exact gx_iret hC hQ dX7_append_13 (rfl) (rfl) rfl
set_option maxHeartbeats 4000000 in
set_option maxRecDepth 20000 in
theorem c1_X7_append (l : Launch) (z : hZt) {n : Nat} {M : hMem} {R : hRef} (gM : gMd n R) {x : Int32} (hx : bIn x 32 126 = true) (hL : M 215 7 = 80) : hCt l z m_X7_append [.ref (z.1 + 215), .int x] n M R n (some (.int (-4))) M R := by
  refine hs_start [some (.ref (z.1 + 215)), some (.int x)] (by decide +kernel) rfl (by intro u hu; simp at hu; rcases hu with rfl | rfl <;> first | rfl | exact isR_cat kv_isR | exact isR_cat aref_isR) (Nat.le_of_ble_eq_true rfl) (Nat.le_refl _) (fun X hlX hN hC hQ => ?_)
  dsimp only at hC hQ
  refine gx_iload_n (i := 1) hC dX7_append_0 rfl rfl ?_
  refine gx_bipush (v := 32) hC dX7_append_1 bp_32 ?_
  refine gx_bipush (v := 126) hC dX7_append_3 bp_126 ?_
  refine gx_callS1 hC dX7_append_5 (c_X7_in _ _ _ _ _) kY_X7_in kS_X7_in ml_X7_41 (by decide) rfl rfl rfl (by first | exact Nat.le_of_ble_eq_true rfl | (simp [Value.category, isR_cat kv_isR, isR_cat aref_isR]; done)) (Nat.le_refl _) (Nat.le_refl _) ?_
  refine gx_ifb_ne (tgt := 14) hC dX7_append_8 (by decide) (fun c_8 => ?_) (fun c_8 => ?_)
  · refine gx_aload_n (i := 0) hC dX7_append_14 rfl rfl (by first | exact Or.inr ⟨_, rfl⟩ | exact Or.inl rfl | exact kv_isR | exact aref_isR) ?_
    refine gx_getI hC dX7_append_15 fl_X7_151 (by first | exact gM.at215 | exact gM.at216 | exact gM.at217 | exact gM.at218 | exact gM.at219 | exact gM.at220 | exact gM.at221 | exact gM.at222 | exact gM.at223 | exact gM.at224 | exact gM.at225) (by decide) (hL) ?_
    refine gx_bipush (v := 80) hC dX7_append_18 bp_80 ?_
    refine gx_icmp_ne (tgt := 26) hC dX7_append_20 (by decide) (fun c_20 => ?_) (fun c_20 => ?_)
    · exact absurd rfl c_20
    · refine gx_bipush (v := -4) hC dX7_append_23 bp_m4 ?_
      exact gx_iret hC hQ dX7_append_25 (rfl) (rfl) rfl
  · exact absurd (hx.symm.trans c_8) (by decide)
set_option maxHeartbeats 4000000 in
set_option maxRecDepth 20000 in
theorem c_X7_append (l : Launch) (z : hZt) {n : Nat} {M : hMem} {R : hRef} (gM : gMd n R) {x : Int32} {L : Nat} (hx : bIn x 32 126 = true) (hL : M 215 7 = nI L) (hL8 : L < 80) : hCt l z m_X7_append [.ref (z.1 + 215), .int x] n M R n (some (.int (nI (L + 1)))) (up2 (up2 M 221 L x) 215 7 (nI (L + 1))) R := by
  refine hs_start [some (.ref (z.1 + 215)), some (.int x)] (by decide +kernel) rfl (by intro u hu; simp at hu; rcases hu with rfl | rfl <;> first | rfl | exact isR_cat kv_isR | exact isR_cat aref_isR) (Nat.le_of_ble_eq_true rfl) (Nat.le_refl _) (fun X hlX hN hC hQ => ?_)
  dsimp only at hC hQ
  refine gx_iload_n (i := 1) hC dX7_append_0 rfl rfl ?_
  refine gx_bipush (v := 32) hC dX7_append_1 bp_32 ?_
  refine gx_bipush (v := 126) hC dX7_append_3 bp_126 ?_
  refine gx_callS1 hC dX7_append_5 (c_X7_in _ _ _ _ _) kY_X7_in kS_X7_in ml_X7_41 (by decide) rfl rfl rfl (by first | exact Nat.le_of_ble_eq_true rfl | (simp [Value.category, isR_cat kv_isR, isR_cat aref_isR]; done)) (Nat.le_refl _) (Nat.le_refl _) ?_
  refine gx_ifb_ne (tgt := 14) hC dX7_append_8 (by decide) (fun c_8 => ?_) (fun c_8 => ?_)
  · refine gx_aload_n (i := 0) hC dX7_append_14 rfl rfl (by first | exact Or.inr ⟨_, rfl⟩ | exact Or.inl rfl | exact kv_isR | exact aref_isR) ?_
    refine gx_getI hC dX7_append_15 fl_X7_151 (by first | exact gM.at215 | exact gM.at216 | exact gM.at217 | exact gM.at218 | exact gM.at219 | exact gM.at220 | exact gM.at221 | exact gM.at222 | exact gM.at223 | exact gM.at224 | exact gM.at225) (by decide) (hL) ?_
    refine gx_bipush (v := nI 80) hC dX7_append_18 bp_80n ?_
    refine gx_icmp_ne (tgt := 26) hC dX7_append_20 (by decide) (fun c_20 => ?_) (fun c_20 => ?_)
    · refine gx_aload_n (i := 0) hC dX7_append_26 rfl rfl (by first | exact Or.inr ⟨_, rfl⟩ | exact Or.inl rfl | exact kv_isR | exact aref_isR) ?_
      refine gx_getR hC dX7_append_27 fl_X7_26 (by first | exact gM.at215 | exact gM.at216 | exact gM.at217 | exact gM.at218 | exact gM.at219 | exact gM.at220 | exact gM.at221 | exact gM.at222 | exact gM.at223 | exact gM.at224 | exact gM.at225) rfl (gM.r221) (by decide) ?_
      refine gx_aload_n (i := 0) hC dX7_append_30 rfl rfl (by first | exact Or.inr ⟨_, rfl⟩ | exact Or.inl rfl | exact kv_isR | exact aref_isR) ?_
      refine gx_getI hC dX7_append_31 fl_X7_151 (by first | exact gM.at215 | exact gM.at216 | exact gM.at217 | exact gM.at218 | exact gM.at219 | exact gM.at220 | exact gM.at221 | exact gM.at222 | exact gM.at223 | exact gM.at224 | exact gM.at225) (by decide) (hL) ?_
      refine gx_iload_n (i := 1) hC dX7_append_34 rfl rfl ?_
      refine gx_iastM hC dX7_append_35 (by first | exact gM.at215 | exact gM.at216 | exact gM.at217 | exact gM.at218 | exact gM.at219 | exact gM.at220 | exact gM.at221 | exact gM.at222 | exact gM.at223 | exact gM.at224 | exact gM.at225) (by exact vpn (by omega) (by decide)) (by rw [nI_clamp (by omega)]) ?_
      refine gx_aload_n (i := 0) hC dX7_append_36 rfl rfl (by first | exact Or.inr ⟨_, rfl⟩ | exact Or.inl rfl | exact kv_isR | exact aref_isR) ?_
      refine gx_dup hC dX7_append_37 (by first | rfl | exact isR_cat kv_isR | exact isR_cat aref_isR) ?_
      refine gx_getI hC dX7_append_38 fl_X7_151 (by first | exact gM.at215 | exact gM.at216 | exact gM.at217 | exact gM.at218 | exact gM.at219 | exact gM.at220 | exact gM.at221 | exact gM.at222 | exact gM.at223 | exact gM.at224 | exact gM.at225) (by decide) ((up2_off (fun e => absurd e.1 (by decide))).trans hL) ?_
      refine gx_iconst (v := nI 1) hC dX7_append_41 ic_1n ?_
      refine gx_iadd hC dX7_append_42 ?_
      rw [nI_add]
      refine gx_putI hC dX7_append_43 fl_X7_151 (by first | exact gM.at215 | exact gM.at216 | exact gM.at217 | exact gM.at218 | exact gM.at219 | exact gM.at220 | exact gM.at221 | exact gM.at222 | exact gM.at223 | exact gM.at224 | exact gM.at225) fn_6_7 rfl (rfl) ?_
      refine gx_aload_n (i := 0) hC dX7_append_46 rfl rfl (by first | exact Or.inr ⟨_, rfl⟩ | exact Or.inl rfl | exact kv_isR | exact aref_isR) ?_
      refine gx_getI hC dX7_append_47 fl_X7_151 (by first | exact gM.at215 | exact gM.at216 | exact gM.at217 | exact gM.at218 | exact gM.at219 | exact gM.at220 | exact gM.at221 | exact gM.at222 | exact gM.at223 | exact gM.at224 | exact gM.at225) (by decide) (up2_same) ?_
      exact gx_iret hC hQ dX7_append_50 (rfl) (rfl) rfl
    · exact absurd c_20 (fun e => by have := (nI_eq (by omega) (by decide)).mp e; omega)
  · exact absurd (hx.symm.trans c_8) (by decide)
set_option maxHeartbeats 4000000 in
set_option maxRecDepth 20000 in
theorem c_X7_clearText (l : Launch) (z : hZt) {n : Nat} {M : hMem} {R : hRef} (gM : gMd n R) : hCt l z m_X7_clearText [.ref (z.1 + 215)] n M R n (some (.int (M 215 7))) (up2 M 215 7 0) R := by
  refine hs_start [some (.ref (z.1 + 215)), none] (by decide +kernel) rfl (by intro u hu; simp at hu; subst hu <;> first | rfl | exact isR_cat kv_isR | exact isR_cat aref_isR) (Nat.le_of_ble_eq_true rfl) (Nat.le_refl _) (fun X hlX hN hC hQ => ?_)
  dsimp only at hC hQ
  refine gx_aload_n (i := 0) hC dX7_clearText_0 rfl rfl (by first | exact Or.inr ⟨_, rfl⟩ | exact Or.inl rfl | exact kv_isR | exact aref_isR) ?_
  refine gx_getI hC dX7_clearText_1 fl_X7_151 (by first | exact gM.at215 | exact gM.at216 | exact gM.at217 | exact gM.at218 | exact gM.at219 | exact gM.at220 | exact gM.at221 | exact gM.at222 | exact gM.at223 | exact gM.at224 | exact gM.at225) (by decide) (rfl) ?_
  refine gx_istore_n (i := 1) (L' := [_, _]) hC dX7_clearText_4 rfl (Nat.le_of_ble_eq_true rfl) rfl (fun u h9 => by first | exact Or.inl rfl | (cases h9; done) | (right; cases h9; first | rfl | exact isR_cat aref_isR | exact isR_cat kv_isR)) ?_
  refine gx_aload_n (i := 0) hC dX7_clearText_5 rfl rfl (by first | exact Or.inr ⟨_, rfl⟩ | exact Or.inl rfl | exact kv_isR | exact aref_isR) ?_
  refine gx_iconst (v := 0) hC dX7_clearText_6 ic_0 ?_
  refine gx_putI hC dX7_clearText_7 fl_X7_151 (by first | exact gM.at215 | exact gM.at216 | exact gM.at217 | exact gM.at218 | exact gM.at219 | exact gM.at220 | exact gM.at221 | exact gM.at222 | exact gM.at223 | exact gM.at224 | exact gM.at225) fn_6_7 rfl (rfl) ?_
  refine gx_iload_n (i := 1) hC dX7_clearText_10 rfl rfl ?_
  exact gx_iret hC hQ dX7_clearText_11 (rfl) (rfl) rfl
