/-! the model: run -/
def mRu (s : Nat → Int32) (L lv : Nat) : Nat → Nat → (Nat → Int32) → (Nat → Int32) → Nat → Nat → Nat × (Nat → Int32) × Nat × (Nat → Int32) × Nat
  | 0, p, t, v, c, n => (n, v, c, t, p)
  | f + 1, p, t, v, c, n => if L ≤ p then (n, v, c, t, p) else
      if (mCo v lv c (mSk s L t p)).1 = true then mRu s L lv f ((mSb s L p).2 + 1) (mSk s L t p) (mCo v lv c (mSk s L t p)).2.1 (mCo v lv c (mSk s L t p)).2.2 (n + 1)
      else (n, (mCo v lv c (mSk s L t p)).2.1, (mCo v lv c (mSk s L t p)).2.2, mSk s L t p, (mSb s L p).2 + 1)
theorem bIn_nat {x : Int32} (h : bIn x 1 99 = true) : ∃ m, x = nI m ∧ m < 2 ^ 31 := by
  have h := of_decide_eq_true h
  have h1 := Int32.le_iff_toInt_le.mp h.1
  have h2 := Int32.le_iff_toInt_le.mp h.2
  have e1 : (1 : Int32).toInt = 1 := by decide
  have e2 : (99 : Int32).toInt = 99 := by decide
  refine ⟨x.toInt.toNat, Int32.toInt_inj.mp ?_, by omega⟩
  rw [nI_toInt (by omega)]
  omega
theorem mIt_o {s t : Nat → Int32} {L p k j : Nat} (h : j ≠ k) : mIt s L p t k j = t j := by
  unfold mIt
  cases mNu s L p with
  | none => rfl
  | some q => exact upd_n h
theorem mSk_2 {s t : Nat → Int32} {L p : Nat} (h : (mSb s L p).1 = true) (h0 : mSk s L t p 0 = 2) : ∃ m, mSk s L t p 1 = nI m ∧ m < 2 ^ 31 := by
  by_cases h1 : mTk s L p 43 = true
  · refine absurd h0 ?_
    unfold mSk
    rw [if_pos h1]
    have e : upd (upd t 0 0) 1 (mKd s L (p + 1)) 0 = 0 := (upd_n (by decide)).trans upd_s
    split
    · rw [e]; decide
    · split
      · rw [mIt_o (by decide), e]; decide
      · split
        · rw [mIt_o (by decide), e]; decide
        · rw [mIt_o (by decide), mIt_o (by decide), e]; decide
  · by_cases h2 : mTk s L p 99 = true
    · refine absurd h0 ?_
      unfold mSk
      rw [if_neg h1, if_pos h2, mIt_o (by decide), upd_s]
      decide
    · by_cases h3 : mTk s L p 116 = true
      · unfold mSb at h
        rw [if_neg h1, if_neg h2, if_pos h3] at h
        unfold mSk
        rw [if_neg h1, if_neg h2, if_pos h3]
        simp only at h
        unfold mIs at h
        unfold mIt
        cases hq : mNu s L (p + 1) with
        | none => rw [hq] at h; cases h
        | some q =>
          rw [hq] at h
          simp only at h ⊢
          rw [upd_s]
          exact bIn_nat h
      · refine absurd h0 ?_
        unfold mSk
        rw [if_neg h1, if_neg h2, if_neg h3, upd_n (by decide), upd_s]
        decide
theorem mRc_pM {M : hMem} {t v : Nat → Int32} {p q : Nat} : mRc (pMm M t p) v q = pMm (mRc M v q) t p := by
  have e : pMm M t p 217 = M 217 := funext fun k => pMm_o (by decide) (fun e => absurd e.1 (by decide))
  have e2 : mRp (pMm M t p) v q = mRp M v q := by unfold mRp; rw [e]
  unfold mRc
  rw [e2]
  unfold pMm
  funext i k
  simp only [up2, putRow]
  (repeat' split) <;> first | rfl | omega
theorem b_X7_isText (l : Launch) (z : hZt) {n : Nat} {M : hMem} {R : hRef} (gM : gMd n R) {s : Nat → Int32} {L : Nat} (hs : M 221 = s) (hL : M 215 7 = nI L) (hL8 : L ≤ 80) {v t0 : Nat → Int32} {p0 : Nat} :
    hCt l z m_X7_isText [.ref (z.1 + 215)] n (putRow (pMm M t0 p0) 216 v) R n (some (.int (b2 (mTx s L 81 0).1))) (putRow (pMm M (mTT s L 81 t0 0) (mTx s L 81 0).2) 216 v) R := by
  have h := c_X7_isText l z gM (M := putRow M 216 v) (s := s) (L := L) (by rw [← hs]; funext k; exact pRo (by decide)) ((pRo (by decide)).trans hL) hL8 (t0 := t0) (p0 := p0)
  rw [pMm_R, pMm_R] at h
  exact h
theorem b_X7_isStrip (l : Launch) (z : hZt) {n : Nat} {M : hMem} {R : hRef} (gM : gMd n R) {s : Nat → Int32} {L : Nat} (hs : M 221 = s) (hL : M 215 7 = nI L) (hL8 : L ≤ 80) {v t : Nat → Int32} {p : Nat} (hp : p ≤ L) :
    hCt l z m_X7_isStrip [.ref (z.1 + 215)] n (putRow (pMm M t p) 216 v) R n (some (.int (b2 (mSb s L p).1))) (putRow (pMm M (mSk s L t p) (mSb s L p).2) 216 v) R := by
  have h := c_X7_isStrip l z gM (M := putRow M 216 v) (s := s) (L := L) (by rw [← hs]; funext k; exact pRo (by decide)) ((pRo (by decide)).trans hL) hL8 (t := t) (p := p) hp
  rw [pMm_R, pMm_R] at h
  exact h
theorem b_X7_takes (l : Launch) (z : hZt) {n : Nat} {M : hMem} {R : hRef} (gM : gMd n R) {s : Nat → Int32} {L : Nat} (hs : M 221 = s) (hL : M 215 7 = nI L) (hL8 : L ≤ 80) {v t : Nat → Int32} {p : Nat} (hp : p ≤ L) (x : Int32) (hx : ¬ x = -1) :
    hCt l z m_X7_takes [.ref (z.1 + 215), .int x] n (putRow (pMm M t p) 216 v) R n (some (.int (b2 (mTk s L p x)))) (putRow (pMm M t (p + bN (mTk s L p x))) 216 v) R := by
  have h := c_X7_takes l z gM (M := putRow M 216 v) (s := s) (L := L) (by rw [← hs]; funext k; exact pRo (by decide)) ((pRo (by decide)).trans hL) hL8 (t := t) (p := p) hp x hx
  rw [pMm_R, pMm_R] at h
  exact h
theorem CR.pm {M : hMem} {t : Nat → Int32} {p : Nat} (h : CR M) : CR (pMm M t p) := h.of (fun i k hi => pMm_o (by omega) (by omega))
set_option maxHeartbeats 4000000 in
set_option maxRecDepth 20000 in
theorem c0_X7_run (l : Launch) (z : hZt) {n : Nat} {M : hMem} {R : hRef} (gM : gMd n R) {s : Nat → Int32} {L : Nat} (hs : M 221 = s) (hL : M 215 7 = nI L) (hL8 : L ≤ 80) {v t0 : Nat → Int32} {p0 : Nat} (h0 : (mTx s L 81 0).1 = false) : hCt l z m_X7_run [.ref (z.1 + 215)] n (putRow (pMm M t0 p0) 216 v) R n (some (.int (-3))) (putRow (pMm M (mTT s L 81 t0 0) (mTx s L 81 0).2) 216 v) R := by
  refine hs_start [some (.ref (z.1 + 215)), none, none] (by decide +kernel) rfl (by intro u hu; simp at hu; subst hu <;> first | rfl | exact isR_cat kv_isR | exact isR_cat aref_isR) (Nat.le_of_ble_eq_true rfl) (Nat.le_refl _) (fun X hlX hN hC hQ => ?_)
  dsimp only at hC hQ
  refine gx_aload_n (i := 0) hC dX7_run_0 rfl rfl (by first | exact Or.inr ⟨_, rfl⟩ | exact Or.inl rfl | exact kv_isR | exact aref_isR) ?_
  refine gx_callV1 hC dX7_run_1 (b_X7_isText _ _ gM hs hL hL8) kY_X7_isText kV_X7_isText ml_X7_173 (by first | exact gM.at215 | exact gM.at216 | exact gM.at217 | exact gM.at218 | exact gM.at219 | exact gM.at220 | exact gM.at221 | exact gM.at222 | exact gM.at223 | exact gM.at224 | exact gM.at225) rfl (by decide) rfl rfl rfl (by first | exact Nat.le_of_ble_eq_true rfl | (simp [Value.category, isR_cat kv_isR, isR_cat aref_isR]; done)) (Nat.le_refl _) (Nat.le_refl _) ?_
  refine gx_ifb_ne (tgt := 10) hC dX7_run_4 (by decide) (fun c_4 => ?_) (fun c_4 => ?_)
  · exact absurd (h0.symm.trans c_4) (by decide)
  · refine gx_bipush (v := -3) hC dX7_run_7 bp_m3 ?_
    exact gx_iret hC hQ dX7_run_9 (rfl) (rfl) rfl
set_option maxHeartbeats 4000000 in
set_option maxRecDepth 20000 in
theorem c_X7_run (l : Launch) (z : hZt) {n : Nat} {M : hMem} {R : hRef} (gM : gMd n R) {s : Nat → Int32} {L : Nat} (hs : M 221 = s) (hL : M 215 7 = nI L) (hL8 : L ≤ 80) {v0 : Nat → Int32} {lv c0 : Nat} (hW0 : MW v0 lv c0) (hR3 : CR M) (hl1 : 1 ≤ lv) {q : Nat} (hq5 : q ≤ 5) (hq : M 215 2 = nI q) {t0 : Nat → Int32} {p0 : Nat} (h0 : (mTx s L 81 0).1 = true) : hCt l z m_X7_run [.ref (z.1 + 215)] n (putRow (pMm M t0 p0) 216 v0) R n (some (.int (nI (mRu s L lv 81 0 (mTT s L 81 t0 0) v0 c0 0).1))) (putRow (pMm (mRc M v0 q) (mRu s L lv 81 0 (mTT s L 81 t0 0) v0 c0 0).2.2.2.1 (mRu s L lv 81 0 (mTT s L 81 t0 0) v0 c0 0).2.2.2.2) 216 (mRu s L lv 81 0 (mTT s L 81 t0 0) v0 c0 0).2.1) R := by
  refine hs_start [some (.ref (z.1 + 215)), none, none] (by decide +kernel) rfl (by intro u hu; simp at hu; subst hu <;> first | rfl | exact isR_cat kv_isR | exact isR_cat aref_isR) (Nat.le_of_ble_eq_true rfl) (Nat.le_refl _) (fun X hlX hN hC hQ => ?_)
  dsimp only at hC hQ
  refine gx_aload_n (i := 0) hC dX7_run_0 rfl rfl (by first | exact Or.inr ⟨_, rfl⟩ | exact Or.inl rfl | exact kv_isR | exact aref_isR) ?_
  refine gx_callV1 hC dX7_run_1 (b_X7_isText _ _ gM hs hL hL8) kY_X7_isText kV_X7_isText ml_X7_173 (by first | exact gM.at215 | exact gM.at216 | exact gM.at217 | exact gM.at218 | exact gM.at219 | exact gM.at220 | exact gM.at221 | exact gM.at222 | exact gM.at223 | exact gM.at224 | exact gM.at225) rfl (by decide) rfl rfl rfl (by first | exact Nat.le_of_ble_eq_true rfl | (simp [Value.category, isR_cat kv_isR, isR_cat aref_isR]; done)) (Nat.le_refl _) (Nat.le_refl _) ?_
  refine gx_ifb_ne (tgt := 10) hC dX7_run_4 (by decide) (fun c_4 => ?_) (fun c_4 => ?_)
  · have hqp : pMm M (mTT s L 81 t0 0) (mTx s L 81 0).2 215 2 = nI q := (pMm_o (by decide) (fun e => absurd e.2 (by decide))).trans hq
    have hs2 : mRc M v0 q 221 = s := by rw [← hs]; funext k2; exact mRc_o (by decide) (by decide)
    have hL2 : mRc M v0 q 215 7 = nI L := by rw [← hL]; unfold mRc; rw [up2_off (fun e => absurd e.2 (by decide)), pRo (by decide)]
    refine gx_aload_n (i := 0) hC dX7_run_10 rfl rfl (by first | exact Or.inr ⟨_, rfl⟩ | exact Or.inl rfl | exact kv_isR | exact aref_isR) ?_
    refine gx_callV0 hC dX7_run_11 (c_X7_records _ _ gM hq5 hqp) kY_X7_records kV_X7_records ml_X7_49 (by first | exact gM.at215 | exact gM.at216 | exact gM.at217 | exact gM.at218 | exact gM.at219 | exact gM.at220 | exact gM.at221 | exact gM.at222 | exact gM.at223 | exact gM.at224 | exact gM.at225) rfl (by decide) rfl rfl rfl (by first | exact Nat.le_of_ble_eq_true rfl | (simp [Value.category, isR_cat kv_isR, isR_cat aref_isR]; done)) (Nat.le_refl _) (Nat.le_refl _) ?_
    rw [mRc_pM]
    refine gx_aload_n (i := 0) hC dX7_run_14 rfl rfl (by first | exact Or.inr ⟨_, rfl⟩ | exact Or.inl rfl | exact kv_isR | exact aref_isR) ?_
    refine gx_iconst (v := nI 0) hC dX7_run_15 ic_0n ?_
    refine gx_putI hC dX7_run_16 fl_X7_154 (by first | exact gM.at215 | exact gM.at216 | exact gM.at217 | exact gM.at218 | exact gM.at219 | exact gM.at220 | exact gM.at221 | exact gM.at222 | exact gM.at223 | exact gM.at224 | exact gM.at225) fn_6_8 rfl ((up_Ro (by decide)).trans (congrArg (fun t => putRow t 216 v0) pMm_p)) ?_
    refine gx_iconst (v := nI 0) hC dX7_run_19 ic_0n ?_
    refine gx_istore_n (i := 1) (L' := [_, _, _]) hC dX7_run_20 rfl (Nat.le_of_ble_eq_true rfl) rfl (fun u h9 => by first | exact Or.inl rfl | (cases h9; done) | (right; cases h9; first | rfl | exact isR_cat aref_isR | exact isR_cat kv_isR)) ?_
    have loop_21 : ∀ (k : Nat) (f p : Nat) (t v : Nat → Int32) (c i : Nat) (u2 : Option Value), f < k → p ≤ L → L - p < f → (mTx s L f p).1 = true → MW v lv c → mRu s L lv f p t v c i = mRu s L lv 81 0 (mTT s L 81 t0 0) v0 c0 0 → hG z n X n (putRow (pMm (mRc M v0 q) t p) 216 v) R 21 [some (.ref (z.1 + 215)), some (.int (nI i)), u2] [] := by
      intro k
      induction k with
      | zero => intros; omega
      | succ k ih =>
        intro f p t v c i u2 hk1 hp hf hX hW hr
        obtain ⟨f, rfl⟩ : ∃ f1, f = f1 + 1 := ⟨f - 1, by omega⟩
        rw [mTx] at hX
        have hc20 := hW.c20
        refine gx_aload_n (i := 0) hC dX7_run_21 rfl rfl (by first | exact Or.inr ⟨_, rfl⟩ | exact Or.inl rfl | exact kv_isR | exact aref_isR) ?_
        refine gx_getI hC dX7_run_22 fl_X7_154 (by first | exact gM.at215 | exact gM.at216 | exact gM.at217 | exact gM.at218 | exact gM.at219 | exact gM.at220 | exact gM.at221 | exact gM.at222 | exact gM.at223 | exact gM.at224 | exact gM.at225) (by decide) ((pRo (by decide)).trans pMm_8) ?_
        refine gx_aload_n (i := 0) hC dX7_run_25 rfl rfl (by first | exact Or.inr ⟨_, rfl⟩ | exact Or.inl rfl | exact kv_isR | exact aref_isR) ?_
        refine gx_getI hC dX7_run_26 fl_X7_151 (by first | exact gM.at215 | exact gM.at216 | exact gM.at217 | exact gM.at218 | exact gM.at219 | exact gM.at220 | exact gM.at221 | exact gM.at222 | exact gM.at223 | exact gM.at224 | exact gM.at225) (by decide) ((pRo (by decide)).trans ((pMm_o (by decide) (fun e => absurd e.2 (by decide))).trans hL2)) ?_
        refine gx_icmp_ge (tgt := 69) hC dX7_run_29 (by decide) (fun c_29 => ?_) (fun c_29 => ?_)
        · have d_29 := cle (by omega) (by omega) c_29
          rw [mRu, if_pos d_29] at hr
          refine gx_iload_n (i := 1) hC dX7_run_69 rfl rfl ?_
          exact gx_iret hC hQ dX7_run_70 ((by rw [← hr])) ((by rw [← hr])) rfl
        · have d_29 := cnle (by omega) (by omega) c_29
          have d9 : ¬ L ≤ p := by omega
          rw [if_neg d9] at hX
          rw [mRu, if_neg d9] at hr
          have hsp := mSb_p (s := s) (L := L) (p := p) (by omega)
          have hsb : ¬ (mSb s L p).1 = false := by
            intro e
            rw [if_pos e] at hX
            cases hX
          rw [if_neg hsb] at hX
          have htk : ¬ mTk s L (mSb s L p).2 59 = false := by
            intro e
            rw [if_pos e] at hX
            cases hX
          rw [if_neg htk] at hX
          have hp9 := mTk_p (by decide) ((Bool.not_eq_false _).mp htk)
          refine gx_aload_n (i := 0) hC dX7_run_32 rfl rfl (by first | exact Or.inr ⟨_, rfl⟩ | exact Or.inl rfl | exact kv_isR | exact aref_isR) ?_
          refine gx_callV1 hC dX7_run_33 (b_X7_isStrip _ _ gM hs2 hL2 hL8 (by omega)) kY_X7_isStrip kV_X7_isStrip ml_X7_169 (by first | exact gM.at215 | exact gM.at216 | exact gM.at217 | exact gM.at218 | exact gM.at219 | exact gM.at220 | exact gM.at221 | exact gM.at222 | exact gM.at223 | exact gM.at224 | exact gM.at225) rfl (by decide) rfl rfl rfl (by first | exact Nat.le_of_ble_eq_true rfl | (simp [Value.category, isR_cat kv_isR, isR_cat aref_isR]; done)) (Nat.le_refl _) (Nat.le_refl _) ?_
          refine gx_ifb_eq (tgt := 52) hC dX7_run_36 (by decide) (fun c_36 => ?_) (fun c_36 => ?_)
          · exact absurd c_36 hsb
          · refine gx_aload_n (i := 0) hC dX7_run_39 rfl rfl (by first | exact Or.inr ⟨_, rfl⟩ | exact Or.inl rfl | exact kv_isR | exact aref_isR) ?_
            refine gx_bipush (v := 59) hC dX7_run_40 bp_59 ?_
            refine gx_callV1 hC dX7_run_42 (b_X7_takes _ _ gM hs2 hL2 hL8 hsp.2.1 _ (by decide)) kY_X7_takes kV_X7_takes ml_X7_163 (by first | exact gM.at215 | exact gM.at216 | exact gM.at217 | exact gM.at218 | exact gM.at219 | exact gM.at220 | exact gM.at221 | exact gM.at222 | exact gM.at223 | exact gM.at224 | exact gM.at225) rfl (by decide) rfl rfl rfl (by first | exact Nat.le_of_ble_eq_true rfl | (simp [Value.category, isR_cat kv_isR, isR_cat aref_isR]; done)) (Nat.le_refl _) (Nat.le_refl _) ?_
            refine gx_ifb_eq (tgt := 52) hC dX7_run_45 (by decide) (fun c_45 => ?_) (fun c_45 => ?_)
            · exact absurd c_45 htk
            · rw [c_45]
              rw [show (mSb s L p).2 + bN true = (mSb s L p).2 + 1 from rfl]
              refine gx_iconst (v := 1) hC dX7_run_48 ic_1 ?_
              refine gx_goto (tgt := 53) hC dX7_run_49 (by decide) ?_
              refine gx_istore_n (i := 2) (L' := [_, _, _]) hC dX7_run_53 rfl (Nat.le_of_ble_eq_true rfl) rfl (fun u h9 => by first | exact Or.inl rfl | (cases h9; done) | (right; cases h9; first | rfl | exact isR_cat aref_isR | exact isR_cat kv_isR)) ?_
              refine gx_aload_n (i := 0) hC dX7_run_54 rfl rfl (by first | exact Or.inr ⟨_, rfl⟩ | exact Or.inl rfl | exact kv_isR | exact aref_isR) ?_
              refine gx_callV1 hC dX7_run_55 (c_X7_carriesOut _ _ gM hW (hR3.rc.pm) hl1 (funext fun k2 => pMm_222) (mSk_2 ((Bool.not_eq_false _).mp hsb))) kY_X7_carriesOut kV_X7_carriesOut ml_X7_176 (by first | exact gM.at215 | exact gM.at216 | exact gM.at217 | exact gM.at218 | exact gM.at219 | exact gM.at220 | exact gM.at221 | exact gM.at222 | exact gM.at223 | exact gM.at224 | exact gM.at225) rfl (by decide) rfl rfl rfl (by first | exact Nat.le_of_ble_eq_true rfl | (simp [Value.category, isR_cat kv_isR, isR_cat aref_isR]; done)) (Nat.le_refl _) (Nat.le_refl _) ?_
              refine gx_ifb_ne (tgt := 63) hC dX7_run_58 (by decide) (fun c_58 => ?_) (fun c_58 => ?_)
              · rw [if_pos c_58] at hr
                refine gx_iinc (i := 1) (L' := [_, _, _]) hC dX7_run_63 rfl (ii_1 _) (Nat.le_of_ble_eq_true rfl) rfl (fun u h9 => by first | exact Or.inl rfl | (cases h9; done) | (right; cases h9; first | rfl | exact isR_cat aref_isR | exact isR_cat kv_isR)) ?_
                refine gx_goto (tgt := 21) hC dX7_run_66 (by decide) ?_
                exact ih f _ _ _ _ _ _ (by omega) (by omega) (by omega) hX hW.co hr
              · rw [if_neg (bqf c_58)] at hr
                refine gx_iload_n (i := 1) hC dX7_run_61 rfl rfl ?_
                exact gx_iret hC hQ dX7_run_62 ((by rw [← hr])) ((by rw [← hr])) rfl
    exact loop_21 82 81 0 _ v0 c0 0 none (by omega) (by omega) (by omega) h0 hW0 rfl
  · exact absurd (h0.symm.trans c_4) (by decide)
