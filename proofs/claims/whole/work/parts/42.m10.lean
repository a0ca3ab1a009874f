/-! the model: strips and texts -/
theorem bqf {b : Bool} (h : b = false) : ¬ b = true := by rw [h]; decide
theorem bqt {b : Bool} (h : b = true) : ¬ b = false := by rw [h]; decide
def mKd (s : Nat → Int32) (L p : Nat) : Int32 := if mHe s L p = 108 then 0 else if mHe s L p = 109 then 1 else if mHe s L p = 104 then 2 else -6
/-- a strip from place p on: whether it is one, and the place behind -/
def mSb (s : Nat → Int32) (L p : Nat) : Bool × Nat :=
  if mTk s L p 43 = true then
    (if mKd s L (p + 1) = -6 then (false, p + 1)
     else if mIs s L (p + 2) 1 9999 = false then (false, mIp s L (p + 2) 1 9999)
     else if mTk s L (mIp s L (p + 2) 1 9999) 64 = false then (false, mIp s L (p + 2) 1 9999)
     else (mIs s L (mIp s L (p + 2) 1 9999 + 1) 0 15, mIp s L (mIp s L (p + 2) 1 9999 + 1) 0 15))
  else if mTk s L p 99 = true then (mIs s L (p + 1) 0 19, mIp s L (p + 1) 0 19)
  else if mTk s L p 116 = true then (mIs s L (p + 1) 1 99, mIp s L (p + 1) 1 99)
  else if mTk s L p 111 = true then (true, p + 1)
  else (mTk s L p 120, p + bN (mTk s L p 120))
/-- what the model told itself of it -/
def mSk (s : Nat → Int32) (L : Nat) (t : Nat → Int32) (p : Nat) : Nat → Int32 :=
  if mTk s L p 43 = true then
    (if mKd s L (p + 1) = -6 then upd (upd t 0 0) 1 (mKd s L (p + 1))
     else if mIs s L (p + 2) 1 9999 = false then mIt s L (p + 2) (upd (upd t 0 0) 1 (mKd s L (p + 1))) 2
     else if mTk s L (mIp s L (p + 2) 1 9999) 64 = false then mIt s L (p + 2) (upd (upd t 0 0) 1 (mKd s L (p + 1))) 2
     else mIt s L (mIp s L (p + 2) 1 9999 + 1) (mIt s L (p + 2) (upd (upd t 0 0) 1 (mKd s L (p + 1))) 2) 3)
  else if mTk s L p 99 = true then mIt s L (p + 1) (upd t 0 1) 1
  else if mTk s L p 116 = true then mIt s L (p + 1) (upd t 0 2) 1
  else upd (upd t 0 3) 1 (if mHe s L p = 111 then 1 else 0)
theorem mTk_p {s : Nat → Int32} {L p : Nat} {x : Int32} (hx : ¬ x = -1) (h : mTk s L p x = true) : p < L :=
  mHe_p (fun e => hx ((of_decide_eq_true h).symm.trans e))
theorem mKd_p {s : Nat → Int32} {L p : Nat} (h : ¬ mKd s L p = -6) : p < L := by
  refine mHe_p (s := s) (fun e => h ?_)
  unfold mKd
  rw [e, if_neg (by decide), if_neg (by decide), if_neg (by decide)]
theorem mSb_p {s : Nat → Int32} {L p : Nat} (hp : p ≤ L) : p ≤ (mSb s L p).2 ∧ (mSb s L p).2 ≤ L ∧ ((mSb s L p).1 = true → p < (mSb s L p).2) := by
  unfold mSb
  split
  · next h => 
    have h := mTk_p (by decide) h
    split
    · exact ⟨by simp, h, fun e => by cases e⟩
    · next h1 =>
      have h1 := mKd_p h1
      have h2 := mIp_p (s := s) (L := L) (p := p + 2) (a := 1) (b := 9999) (by omega)
      split
      · exact ⟨by simp only; omega, h2.2.1, fun e => by cases e⟩
      · split
        · exact ⟨by simp only; omega, h2.2.1, fun e => by cases e⟩
        · next h3 h4 =>
          have h4 := mTk_p (by decide) ((Bool.not_eq_false _).mp h4)
          have h5 := mIp_p (s := s) (L := L) (p := mIp s L (p + 2) 1 9999 + 1) (a := 0) (b := 15) (by omega)
          exact ⟨by simp only; omega, h5.2.1, fun e => by have := h5.2.2 e; simp only; omega⟩
  · split
    · next h =>
      have h := mTk_p (by decide) h
      have h5 := mIp_p (s := s) (L := L) (p := p + 1) (a := 0) (b := 19) (by omega)
      exact ⟨by simp only; omega, h5.2.1, fun e => by simp only; omega⟩
    · split
      · next h =>
        have h := mTk_p (by decide) h
        have h5 := mIp_p (s := s) (L := L) (p := p + 1) (a := 1) (b := 99) (by omega)
        exact ⟨by simp only; omega, h5.2.1, fun e => by simp only; omega⟩
      · split
        · next h =>
          have h := mTk_p (by decide) h
          exact ⟨by simp only; omega, h, fun e => by simp only; omega⟩
        · cases h : mTk s L p 120 with
          | false => exact ⟨by simp [bN], hp, fun e => by cases e⟩
          | true =>
            have h := mTk_p (by decide) h
            exact ⟨by simp [bN], h, fun e => by simp [bN]⟩
theorem mTk_bp {s : Nat → Int32} {L p : Nat} {x : Int32} (hx : ¬ x = -1) (hp : p ≤ L) : p + bN (mTk s L p x) ≤ L := by
  cases h : mTk s L p x with
  | false => exact hp
  | true => exact mTk_p hx h
set_option maxHeartbeats 4000000 in
set_option maxRecDepth 20000 in
theorem c_X7_isStrip (l : Launch) (z : hZt) {n : Nat} {M : hMem} {R : hRef} (gM : gMd n R) {s : Nat → Int32} {L : Nat} (hs : M 221 = s) (hL : M 215 7 = nI L) (hL8 : L ≤ 80) {t : Nat → Int32} {p : Nat} (hp : p ≤ L) : hCt l z m_X7_isStrip [.ref (z.1 + 215)] n (pMm M t p) R n (some (.int (b2 (mSb s L p).1))) (pMm M (mSk s L t p) (mSb s L p).2) R := by
  refine hs_start [some (.ref (z.1 + 215))] (by decide +kernel) rfl (by intro u hu; simp at hu; subst hu <;> first | rfl | exact isR_cat kv_isR | exact isR_cat aref_isR) (Nat.le_of_ble_eq_true rfl) (Nat.le_refl _) (fun X hlX hN hC hQ => ?_)
  dsimp only at hC hQ
  refine gx_aload_n (i := 0) hC dX7_isStrip_0 rfl rfl (by first | exact Or.inr ⟨_, rfl⟩ | exact Or.inl rfl | exact kv_isR | exact aref_isR) ?_
  refine gx_bipush (v := 43) hC dX7_isStrip_1 bp_43 ?_
  refine gx_callV1 hC dX7_isStrip_3 (c_X7_takes _ _ gM hs hL hL8 (by omega) _ (by decide)) kY_X7_takes kV_X7_takes ml_X7_163 (by first | exact gM.at215 | exact gM.at216 | exact gM.at217 | exact gM.at218 | exact gM.at219 | exact gM.at220 | exact gM.at221 | exact gM.at222 | exact gM.at223 | exact gM.at224 | exact gM.at225) rfl (by decide) rfl rfl rfl (by first | exact Nat.le_of_ble_eq_true rfl | (simp [Value.category, isR_cat kv_isR, isR_cat aref_isR]; done)) (Nat.le_refl _) (Nat.le_refl _) ?_
  refine gx_ifb_eq (tgt := 137) hC dX7_isStrip_6 (by decide) (fun c_6 => ?_) (fun c_6 => ?_)
  · rw [c_6]
    rw [show p + bN false = p from rfl]
    refine gx_aload_n (i := 0) hC dX7_isStrip_137 rfl rfl (by first | exact Or.inr ⟨_, rfl⟩ | exact Or.inl rfl | exact kv_isR | exact aref_isR) ?_
    refine gx_bipush (v := 99) hC dX7_isStrip_138 bp_99 ?_
    refine gx_callV1 hC dX7_isStrip_140 (c_X7_takes _ _ gM hs hL hL8 (by omega) _ (by decide)) kY_X7_takes kV_X7_takes ml_X7_163 (by first | exact gM.at215 | exact gM.at216 | exact gM.at217 | exact gM.at218 | exact gM.at219 | exact gM.at220 | exact gM.at221 | exact gM.at222 | exact gM.at223 | exact gM.at224 | exact gM.at225) rfl (by decide) rfl rfl rfl (by first | exact Nat.le_of_ble_eq_true rfl | (simp [Value.category, isR_cat kv_isR, isR_cat aref_isR]; done)) (Nat.le_refl _) (Nat.le_refl _) ?_
    refine gx_ifb_eq (tgt := 162) hC dX7_isStrip_143 (by decide) (fun c_143 => ?_) (fun c_143 => ?_)
    · rw [c_143]
      rw [show p + bN false = p from rfl]
      refine gx_aload_n (i := 0) hC dX7_isStrip_162 rfl rfl (by first | exact Or.inr ⟨_, rfl⟩ | exact Or.inl rfl | exact kv_isR | exact aref_isR) ?_
      refine gx_bipush (v := 116) hC dX7_isStrip_163 bp_116 ?_
      refine gx_callV1 hC dX7_isStrip_165 (c_X7_takes _ _ gM hs hL hL8 (by omega) _ (by decide)) kY_X7_takes kV_X7_takes ml_X7_163 (by first | exact gM.at215 | exact gM.at216 | exact gM.at217 | exact gM.at218 | exact gM.at219 | exact gM.at220 | exact gM.at221 | exact gM.at222 | exact gM.at223 | exact gM.at224 | exact gM.at225) rfl (by decide) rfl rfl rfl (by first | exact Nat.le_of_ble_eq_true rfl | (simp [Value.category, isR_cat kv_isR, isR_cat aref_isR]; done)) (Nat.le_refl _) (Nat.le_refl _) ?_
      refine gx_ifb_eq (tgt := 187) hC dX7_isStrip_168 (by decide) (fun c_168 => ?_) (fun c_168 => ?_)
      · rw [c_168]
        rw [show p + bN false = p from rfl]
        refine gx_aload_n (i := 0) hC dX7_isStrip_187 rfl rfl (by first | exact Or.inr ⟨_, rfl⟩ | exact Or.inl rfl | exact kv_isR | exact aref_isR) ?_
        refine gx_getR hC dX7_isStrip_188 fl_X7_29 (by first | exact gM.at215 | exact gM.at216 | exact gM.at217 | exact gM.at218 | exact gM.at219 | exact gM.at220 | exact gM.at221 | exact gM.at222 | exact gM.at223 | exact gM.at224 | exact gM.at225) rfl (gM.r222) (by decide) ?_
        refine gx_iconst (v := nI 0) hC dX7_isStrip_191 ic_0n ?_
        refine gx_iconst (v := 3) hC dX7_isStrip_192 ic_3 ?_
        refine gx_iastM hC dX7_isStrip_193 (by first | exact gM.at215 | exact gM.at216 | exact gM.at217 | exact gM.at218 | exact gM.at219 | exact gM.at220 | exact gM.at221 | exact gM.at222 | exact gM.at223 | exact gM.at224 | exact gM.at225) (by exact vpn (by omega) (by decide)) (pMm_tn (by omega)) ?_
        refine gx_aload_n (i := 0) hC dX7_isStrip_194 rfl rfl (by first | exact Or.inr ⟨_, rfl⟩ | exact Or.inl rfl | exact kv_isR | exact aref_isR) ?_
        refine gx_getR hC dX7_isStrip_195 fl_X7_29 (by first | exact gM.at215 | exact gM.at216 | exact gM.at217 | exact gM.at218 | exact gM.at219 | exact gM.at220 | exact gM.at221 | exact gM.at222 | exact gM.at223 | exact gM.at224 | exact gM.at225) rfl (gM.r222) (by decide) ?_
        refine gx_iconst (v := nI 1) hC dX7_isStrip_198 ic_1n ?_
        refine gx_aload_n (i := 0) hC dX7_isStrip_199 rfl rfl (by first | exact Or.inr ⟨_, rfl⟩ | exact Or.inl rfl | exact kv_isR | exact aref_isR) ?_
        refine gx_callV1 hC dX7_isStrip_200 (c_X7_here _ _ gM hs hL hL8 (by omega)) kY_X7_here kV_X7_here ml_X7_157 (by first | exact gM.at215 | exact gM.at216 | exact gM.at217 | exact gM.at218 | exact gM.at219 | exact gM.at220 | exact gM.at221 | exact gM.at222 | exact gM.at223 | exact gM.at224 | exact gM.at225) rfl (by decide) rfl rfl rfl (by first | exact Nat.le_of_ble_eq_true rfl | (simp [Value.category, isR_cat kv_isR, isR_cat aref_isR]; done)) (Nat.le_refl _) (Nat.le_refl _) ?_
        refine gx_bipush (v := 111) hC dX7_isStrip_203 bp_111 ?_
        refine gx_icmp_ne (tgt := 212) hC dX7_isStrip_205 (by decide) (fun c_205 => ?_) (fun c_205 => ?_)
        · refine gx_iconst (v := 0) hC dX7_isStrip_212 ic_0 ?_
          refine gx_iastM hC dX7_isStrip_213 (by first | exact gM.at215 | exact gM.at216 | exact gM.at217 | exact gM.at218 | exact gM.at219 | exact gM.at220 | exact gM.at221 | exact gM.at222 | exact gM.at223 | exact gM.at224 | exact gM.at225) (by exact vpn (by omega) (by decide)) (pMm_tn (by omega)) ?_
          refine gx_aload_n (i := 0) hC dX7_isStrip_214 rfl rfl (by first | exact Or.inr ⟨_, rfl⟩ | exact Or.inl rfl | exact kv_isR | exact aref_isR) ?_
          refine gx_bipush (v := 111) hC dX7_isStrip_215 bp_111 ?_
          refine gx_callV1 hC dX7_isStrip_217 (c_X7_takes _ _ gM hs hL hL8 (by omega) _ (by decide)) kY_X7_takes kV_X7_takes ml_X7_163 (by first | exact gM.at215 | exact gM.at216 | exact gM.at217 | exact gM.at218 | exact gM.at219 | exact gM.at220 | exact gM.at221 | exact gM.at222 | exact gM.at223 | exact gM.at224 | exact gM.at225) rfl (by decide) rfl rfl rfl (by first | exact Nat.le_of_ble_eq_true rfl | (simp [Value.category, isR_cat kv_isR, isR_cat aref_isR]; done)) (Nat.le_refl _) (Nat.le_refl _) ?_
          refine gx_ifb_ne (tgt := 232) hC dX7_isStrip_220 (by decide) (fun c_220 => ?_) (fun c_220 => ?_)
          · rw [c_220]
            rw [show p + bN true = p + 1 from rfl]
            refine gx_iconst (v := 1) hC dX7_isStrip_232 ic_1 ?_
            refine gx_goto (tgt := 237) hC dX7_isStrip_233 (by decide) ?_
            exact gx_zret hC hQ dX7_isStrip_237 (by first | exact Or.inl rfl | exact Or.inr rfl | exact b2_bit _) ((by unfold mSb; rw [if_neg (bqf c_6), if_neg (bqf c_143), if_neg (bqf c_168), if_pos c_220]; rfl)) ((by unfold mSb mSk; rw [if_neg (bqf c_6), if_neg (bqf c_143), if_neg (bqf c_168), if_neg (bqf c_6), if_neg (bqf c_143), if_neg (bqf c_168), if_pos c_220, if_neg c_205])) rfl
          · rw [c_220]
            rw [show p + bN false = p from rfl]
            refine gx_aload_n (i := 0) hC dX7_isStrip_223 rfl rfl (by first | exact Or.inr ⟨_, rfl⟩ | exact Or.inl rfl | exact kv_isR | exact aref_isR) ?_
            refine gx_bipush (v := 120) hC dX7_isStrip_224 bp_120 ?_
            refine gx_callV1 hC dX7_isStrip_226 (c_X7_takes _ _ gM hs hL hL8 (by omega) _ (by decide)) kY_X7_takes kV_X7_takes ml_X7_163 (by first | exact gM.at215 | exact gM.at216 | exact gM.at217 | exact gM.at218 | exact gM.at219 | exact gM.at220 | exact gM.at221 | exact gM.at222 | exact gM.at223 | exact gM.at224 | exact gM.at225) rfl (by decide) rfl rfl rfl (by first | exact Nat.le_of_ble_eq_true rfl | (simp [Value.category, isR_cat kv_isR, isR_cat aref_isR]; done)) (Nat.le_refl _) (Nat.le_refl _) ?_
            refine gx_ifb_eq (tgt := 236) hC dX7_isStrip_229 (by decide) (fun c_229 => ?_) (fun c_229 => ?_)
            · refine gx_iconst (v := 0) hC dX7_isStrip_236 ic_0 ?_
              exact gx_zret hC hQ dX7_isStrip_237 (by first | exact Or.inl rfl | exact Or.inr rfl | exact b2_bit _) ((by unfold mSb; rw [if_neg (bqf c_6), if_neg (bqf c_143), if_neg (bqf c_168), if_neg (bqf c_220), c_229]; rfl)) ((by unfold mSb mSk; rw [if_neg (bqf c_6), if_neg (bqf c_143), if_neg (bqf c_168), if_neg (bqf c_6), if_neg (bqf c_143), if_neg (bqf c_168), if_neg (bqf c_220), if_neg c_205])) rfl
            · refine gx_iconst (v := 1) hC dX7_isStrip_232 ic_1 ?_
              refine gx_goto (tgt := 237) hC dX7_isStrip_233 (by decide) ?_
              exact gx_zret hC hQ dX7_isStrip_237 (by first | exact Or.inl rfl | exact Or.inr rfl | exact b2_bit _) ((by unfold mSb; rw [if_neg (bqf c_6), if_neg (bqf c_143), if_neg (bqf c_168), if_neg (bqf c_220), c_229]; rfl)) ((by unfold mSb mSk; rw [if_neg (bqf c_6), if_neg (bqf c_143), if_neg (bqf c_168), if_neg (bqf c_6), if_neg (bqf c_143), if_neg (bqf c_168), if_neg (bqf c_220), if_neg c_205])) rfl
        · refine gx_iconst (v := 1) hC dX7_isStrip_208 ic_1 ?_
          refine gx_goto (tgt := 213) hC dX7_isStrip_209 (by decide) ?_
          refine gx_iastM hC dX7_isStrip_213 (by first | exact gM.at215 | exact gM.at216 | exact gM.at217 | exact gM.at218 | exact gM.at219 | exact gM.at220 | exact gM.at221 | exact gM.at222 | exact gM.at223 | exact gM.at224 | exact gM.at225) (by exact vpn (by omega) (by decide)) (pMm_tn (by omega)) ?_
          refine gx_aload_n (i := 0) hC dX7_isStrip_214 rfl rfl (by first | exact Or.inr ⟨_, rfl⟩ | exact Or.inl rfl | exact kv_isR | exact aref_isR) ?_
          refine gx_bipush (v := 111) hC dX7_isStrip_215 bp_111 ?_
          refine gx_callV1 hC dX7_isStrip_217 (c_X7_takes _ _ gM hs hL hL8 (by omega) _ (by decide)) kY_X7_takes kV_X7_takes ml_X7_163 (by first | exact gM.at215 | exact gM.at216 | exact gM.at217 | exact gM.at218 | exact gM.at219 | exact gM.at220 | exact gM.at221 | exact gM.at222 | exact gM.at223 | exact gM.at224 | exact gM.at225) rfl (by decide) rfl rfl rfl (by first | exact Nat.le_of_ble_eq_true rfl | (simp [Value.category, isR_cat kv_isR, isR_cat aref_isR]; done)) (Nat.le_refl _) (Nat.le_refl _) ?_
          refine gx_ifb_ne (tgt := 232) hC dX7_isStrip_220 (by decide) (fun c_220 => ?_) (fun c_220 => ?_)
          · rw [c_220]
            rw [show p + bN true = p + 1 from rfl]
            refine gx_iconst (v := 1) hC dX7_isStrip_232 ic_1 ?_
            refine gx_goto (tgt := 237) hC dX7_isStrip_233 (by decide) ?_
            exact gx_zret hC hQ dX7_isStrip_237 (by first | exact Or.inl rfl | exact Or.inr rfl | exact b2_bit _) ((by unfold mSb; rw [if_neg (bqf c_6), if_neg (bqf c_143), if_neg (bqf c_168), if_pos c_220]; rfl)) ((by unfold mSb mSk; rw [if_neg (bqf c_6), if_neg (bqf c_143), if_neg (bqf c_168), if_neg (bqf c_6), if_neg (bqf c_143), if_neg (bqf c_168), if_pos c_220, if_pos c_205])) rfl
          · rw [c_220]
            rw [show p + bN false = p from rfl]
            refine gx_aload_n (i := 0) hC dX7_isStrip_223 rfl rfl (by first | exact Or.inr ⟨_, rfl⟩ | exact Or.inl rfl | exact kv_isR | exact aref_isR) ?_
            refine gx_bipush (v := 120) hC dX7_isStrip_224 bp_120 ?_
            refine gx_callV1 hC dX7_isStrip_226 (c_X7_takes _ _ gM hs hL hL8 (by omega) _ (by decide)) kY_X7_takes kV_X7_takes ml_X7_163 (by first | exact gM.at215 | exact gM.at216 | exact gM.at217 | exact gM.at218 | exact gM.at219 | exact gM.at220 | exact gM.at221 | exact gM.at222 | exact gM.at223 | exact gM.at224 | exact gM.at225) rfl (by decide) rfl rfl rfl (by first | exact Nat.le_of_ble_eq_true rfl | (simp [Value.category, isR_cat kv_isR, isR_cat aref_isR]; done)) (Nat.le_refl _) (Nat.le_refl _) ?_
            refine gx_ifb_eq (tgt := 236) hC dX7_isStrip_229 (by decide) (fun c_229 => ?_) (fun c_229 => ?_)
            · refine gx_iconst (v := 0) hC dX7_isStrip_236 ic_0 ?_
              exact gx_zret hC hQ dX7_isStrip_237 (by first | exact Or.inl rfl | exact Or.inr rfl | exact b2_bit _) ((by unfold mSb; rw [if_neg (bqf c_6), if_neg (bqf c_143), if_neg (bqf c_168), if_neg (bqf c_220), c_229]; rfl)) ((by unfold mSb mSk; rw [if_neg (bqf c_6), if_neg (bqf c_143), if_neg (bqf c_168), if_neg (bqf c_6), if_neg (bqf c_143), if_neg (bqf c_168), if_neg (bqf c_220), if_pos c_205])) rfl
            · refine gx_iconst (v := 1) hC dX7_isStrip_232 ic_1 ?_
              refine gx_goto (tgt := 237) hC dX7_isStrip_233 (by decide) ?_
              exact gx_zret hC hQ dX7_isStrip_237 (by first | exact Or.inl rfl | exact Or.inr rfl | exact b2_bit _) ((by unfold mSb; rw [if_neg (bqf c_6), if_neg (bqf c_143), if_neg (bqf c_168), if_neg (bqf c_220), c_229]; rfl)) ((by unfold mSb mSk; rw [if_neg (bqf c_6), if_neg (bqf c_143), if_neg (bqf c_168), if_neg (bqf c_6), if_neg (bqf c_143), if_neg (bqf c_168), if_neg (bqf c_220), if_pos c_205])) rfl
      · rw [c_168]
        rw [show p + bN true = p + 1 from rfl]
        have h_168 := mTk_p (by decide) c_168
        refine gx_aload_n (i := 0) hC dX7_isStrip_171 rfl rfl (by first | exact Or.inr ⟨_, rfl⟩ | exact Or.inl rfl | exact kv_isR | exact aref_isR) ?_
        refine gx_getR hC dX7_isStrip_172 fl_X7_29 (by first | exact gM.at215 | exact gM.at216 | exact gM.at217 | exact gM.at218 | exact gM.at219 | exact gM.at220 | exact gM.at221 | exact gM.at222 | exact gM.at223 | exact gM.at224 | exact gM.at225) rfl (gM.r222) (by decide) ?_
        refine gx_iconst (v := nI 0) hC dX7_isStrip_175 ic_0n ?_
        refine gx_iconst (v := 2) hC dX7_isStrip_176 ic_2 ?_
        refine gx_iastM hC dX7_isStrip_177 (by first | exact gM.at215 | exact gM.at216 | exact gM.at217 | exact gM.at218 | exact gM.at219 | exact gM.at220 | exact gM.at221 | exact gM.at222 | exact gM.at223 | exact gM.at224 | exact gM.at225) (by exact vpn (by omega) (by decide)) (pMm_tn (by omega)) ?_
        refine gx_aload_n (i := 0) hC dX7_isStrip_178 rfl rfl (by first | exact Or.inr ⟨_, rfl⟩ | exact Or.inl rfl | exact kv_isR | exact aref_isR) ?_
        refine gx_iconst (v := 1) hC dX7_isStrip_179 ic_1 ?_
        refine gx_bipush (v := 99) hC dX7_isStrip_180 bp_99 ?_
        refine gx_iconst (v := nI 1) hC dX7_isStrip_182 ic_1n ?_
        refine gx_callV1 hC dX7_isStrip_183 (c_X7_isNumber _ _ gM hs hL hL8 (by omega) (by decide) _ _) kY_X7_isNumber kV_X7_isNumber ml_X7_166 (by first | exact gM.at215 | exact gM.at216 | exact gM.at217 | exact gM.at218 | exact gM.at219 | exact gM.at220 | exact gM.at221 | exact gM.at222 | exact gM.at223 | exact gM.at224 | exact gM.at225) rfl (by decide) rfl rfl rfl (by first | exact Nat.le_of_ble_eq_true rfl | (simp [Value.category, isR_cat kv_isR, isR_cat aref_isR]; done)) (Nat.le_refl _) (Nat.le_refl _) ?_
        exact gx_zret hC hQ dX7_isStrip_186 (by first | exact Or.inl rfl | exact Or.inr rfl | exact b2_bit _) ((by unfold mSb; rw [if_neg (bqf c_6), if_neg (bqf c_143), if_pos c_168])) ((by unfold mSb mSk; rw [if_neg (bqf c_6), if_neg (bqf c_143), if_pos c_168, if_neg (bqf c_6), if_neg (bqf c_143), if_pos c_168])) rfl
    · rw [c_143]
      rw [show p + bN true = p + 1 from rfl]
      have h_143 := mTk_p (by decide) c_143
      refine gx_aload_n (i := 0) hC dX7_isStrip_146 rfl rfl (by first | exact Or.inr ⟨_, rfl⟩ | exact Or.inl rfl | exact kv_isR | exact aref_isR) ?_
      refine gx_getR hC dX7_isStrip_147 fl_X7_29 (by first | exact gM.at215 | exact gM.at216 | exact gM.at217 | exact gM.at218 | exact gM.at219 | exact gM.at220 | exact gM.at221 | exact gM.at222 | exact gM.at223 | exact gM.at224 | exact gM.at225) rfl (gM.r222) (by decide) ?_
      refine gx_iconst (v := nI 0) hC dX7_isStrip_150 ic_0n ?_
      refine gx_iconst (v := 1) hC dX7_isStrip_151 ic_1 ?_
      refine gx_iastM hC dX7_isStrip_152 (by first | exact gM.at215 | exact gM.at216 | exact gM.at217 | exact gM.at218 | exact gM.at219 | exact gM.at220 | exact gM.at221 | exact gM.at222 | exact gM.at223 | exact gM.at224 | exact gM.at225) (by exact vpn (by omega) (by decide)) (pMm_tn (by omega)) ?_
      refine gx_aload_n (i := 0) hC dX7_isStrip_153 rfl rfl (by first | exact Or.inr ⟨_, rfl⟩ | exact Or.inl rfl | exact kv_isR | exact aref_isR) ?_
      refine gx_iconst (v := 0) hC dX7_isStrip_154 ic_0 ?_
      refine gx_bipush (v := 19) hC dX7_isStrip_155 bp_19 ?_
      refine gx_iconst (v := nI 1) hC dX7_isStrip_157 ic_1n ?_
      refine gx_callV1 hC dX7_isStrip_158 (c_X7_isNumber _ _ gM hs hL hL8 (by omega) (by decide) _ _) kY_X7_isNumber kV_X7_isNumber ml_X7_166 (by first | exact gM.at215 | exact gM.at216 | exact gM.at217 | exact gM.at218 | exact gM.at219 | exact gM.at220 | exact gM.at221 | exact gM.at222 | exact gM.at223 | exact gM.at224 | exact gM.at225) rfl (by decide) rfl rfl rfl (by first | exact Nat.le_of_ble_eq_true rfl | (simp [Value.category, isR_cat kv_isR, isR_cat aref_isR]; done)) (Nat.le_refl _) (Nat.le_refl _) ?_
      exact gx_zret hC hQ dX7_isStrip_161 (by first | exact Or.inl rfl | exact Or.inr rfl | exact b2_bit _) ((by unfold mSb; rw [if_neg (bqf c_6), if_pos c_143])) ((by unfold mSb mSk; rw [if_neg (bqf c_6), if_pos c_143, if_neg (bqf c_6), if_pos c_143])) rfl
  · rw [c_6]
    rw [show p + bN true = p + 1 from rfl]
    have h_6 := mTk_p (by decide) c_6
    refine gx_aload_n (i := 0) hC dX7_isStrip_9 rfl rfl (by first | exact Or.inr ⟨_, rfl⟩ | exact Or.inl rfl | exact kv_isR | exact aref_isR) ?_
    refine gx_getR hC dX7_isStrip_10 fl_X7_29 (by first | exact gM.at215 | exact gM.at216 | exact gM.at217 | exact gM.at218 | exact gM.at219 | exact gM.at220 | exact gM.at221 | exact gM.at222 | exact gM.at223 | exact gM.at224 | exact gM.at225) rfl (gM.r222) (by decide) ?_
    refine gx_iconst (v := nI 0) hC dX7_isStrip_13 ic_0n ?_
    refine gx_iconst (v := 0) hC dX7_isStrip_14 ic_0 ?_
    refine gx_iastM hC dX7_isStrip_15 (by first | exact gM.at215 | exact gM.at216 | exact gM.at217 | exact gM.at218 | exact gM.at219 | exact gM.at220 | exact gM.at221 | exact gM.at222 | exact gM.at223 | exact gM.at224 | exact gM.at225) (by exact vpn (by omega) (by decide)) (pMm_tn (by omega)) ?_
    refine gx_aload_n (i := 0) hC dX7_isStrip_16 rfl rfl (by first | exact Or.inr ⟨_, rfl⟩ | exact Or.inl rfl | exact kv_isR | exact aref_isR) ?_
    refine gx_getR hC dX7_isStrip_17 fl_X7_29 (by first | exact gM.at215 | exact gM.at216 | exact gM.at217 | exact gM.at218 | exact gM.at219 | exact gM.at220 | exact gM.at221 | exact gM.at222 | exact gM.at223 | exact gM.at224 | exact gM.at225) rfl (gM.r222) (by decide) ?_
    refine gx_iconst (v := nI 1) hC dX7_isStrip_20 ic_1n ?_
    refine gx_aload_n (i := 0) hC dX7_isStrip_21 rfl rfl (by first | exact Or.inr ⟨_, rfl⟩ | exact Or.inl rfl | exact kv_isR | exact aref_isR) ?_
    refine gx_callV1 hC dX7_isStrip_22 (c_X7_here _ _ gM hs hL hL8 (by omega)) kY_X7_here kV_X7_here ml_X7_157 (by first | exact gM.at215 | exact gM.at216 | exact gM.at217 | exact gM.at218 | exact gM.at219 | exact gM.at220 | exact gM.at221 | exact gM.at222 | exact gM.at223 | exact gM.at224 | exact gM.at225) rfl (by decide) rfl rfl rfl (by first | exact Nat.le_of_ble_eq_true rfl | (simp [Value.category, isR_cat kv_isR, isR_cat aref_isR]; done)) (Nat.le_refl _) (Nat.le_refl _) ?_
    refine gx_bipush (v := 108) hC dX7_isStrip_25 bp_108 ?_
    refine gx_icmp_ne (tgt := 34) hC dX7_isStrip_27 (by decide) (fun c_27 => ?_) (fun c_27 => ?_)
    · refine gx_aload_n (i := 0) hC dX7_isStrip_34 rfl rfl (by first | exact Or.inr ⟨_, rfl⟩ | exact Or.inl rfl | exact kv_isR | exact aref_isR) ?_
      refine gx_callV1 hC dX7_isStrip_35 (c_X7_here _ _ gM hs hL hL8 (by omega)) kY_X7_here kV_X7_here ml_X7_157 (by first | exact gM.at215 | exact gM.at216 | exact gM.at217 | exact gM.at218 | exact gM.at219 | exact gM.at220 | exact gM.at221 | exact gM.at222 | exact gM.at223 | exact gM.at224 | exact gM.at225) rfl (by decide) rfl rfl rfl (by first | exact Nat.le_of_ble_eq_true rfl | (simp [Value.category, isR_cat kv_isR, isR_cat aref_isR]; done)) (Nat.le_refl _) (Nat.le_refl _) ?_
      refine gx_bipush (v := 109) hC dX7_isStrip_38 bp_109 ?_
      refine gx_icmp_ne (tgt := 47) hC dX7_isStrip_40 (by decide) (fun c_40 => ?_) (fun c_40 => ?_)
      · refine gx_aload_n (i := 0) hC dX7_isStrip_47 rfl rfl (by first | exact Or.inr ⟨_, rfl⟩ | exact Or.inl rfl | exact kv_isR | exact aref_isR) ?_
        refine gx_callV1 hC dX7_isStrip_48 (c_X7_here _ _ gM hs hL hL8 (by omega)) kY_X7_here kV_X7_here ml_X7_157 (by first | exact gM.at215 | exact gM.at216 | exact gM.at217 | exact gM.at218 | exact gM.at219 | exact gM.at220 | exact gM.at221 | exact gM.at222 | exact gM.at223 | exact gM.at224 | exact gM.at225) rfl (by decide) rfl rfl rfl (by first | exact Nat.le_of_ble_eq_true rfl | (simp [Value.category, isR_cat kv_isR, isR_cat aref_isR]; done)) (Nat.le_refl _) (Nat.le_refl _) ?_
        refine gx_bipush (v := 104) hC dX7_isStrip_51 bp_104 ?_
        refine gx_icmp_ne (tgt := 60) hC dX7_isStrip_53 (by decide) (fun c_53 => ?_) (fun c_53 => ?_)
        · refine gx_bipush (v := -6) hC dX7_isStrip_60 bp_m6 ?_
          have hkd : mKd s L (p + 1) = -6 := by unfold mKd; rw [if_neg c_27, if_neg c_40, if_neg c_53]
          refine gx_iastM hC dX7_isStrip_62 (by first | exact gM.at215 | exact gM.at216 | exact gM.at217 | exact gM.at218 | exact gM.at219 | exact gM.at220 | exact gM.at221 | exact gM.at222 | exact gM.at223 | exact gM.at224 | exact gM.at225) (by exact vpn (by omega) (by decide)) (pMm_tn (by omega)) ?_
          refine gx_aload_n (i := 0) hC dX7_isStrip_63 rfl rfl (by first | exact Or.inr ⟨_, rfl⟩ | exact Or.inl rfl | exact kv_isR | exact aref_isR) ?_
          refine gx_dup hC dX7_isStrip_64 (by first | rfl | exact isR_cat kv_isR | exact isR_cat aref_isR) ?_
          refine gx_getI hC dX7_isStrip_65 fl_X7_154 (by first | exact gM.at215 | exact gM.at216 | exact gM.at217 | exact gM.at218 | exact gM.at219 | exact gM.at220 | exact gM.at221 | exact gM.at222 | exact gM.at223 | exact gM.at224 | exact gM.at225) (by decide) (pMm_8) ?_
          refine gx_aload_n (i := 0) hC dX7_isStrip_68 rfl rfl (by first | exact Or.inr ⟨_, rfl⟩ | exact Or.inl rfl | exact kv_isR | exact aref_isR) ?_
          refine gx_getR hC dX7_isStrip_69 fl_X7_29 (by first | exact gM.at215 | exact gM.at216 | exact gM.at217 | exact gM.at218 | exact gM.at219 | exact gM.at220 | exact gM.at221 | exact gM.at222 | exact gM.at223 | exact gM.at224 | exact gM.at225) rfl (gM.r222) (by decide) ?_
          refine gx_iconst (v := nI 1) hC dX7_isStrip_72 ic_1n ?_
          refine gx_iald hC dX7_isStrip_73 (by first | exact gM.at215 | exact gM.at216 | exact gM.at217 | exact gM.at218 | exact gM.at219 | exact gM.at220 | exact gM.at221 | exact gM.at222 | exact gM.at223 | exact gM.at224 | exact gM.at225) (by exact vpn (by omega) (by decide)) ((pMm_n (by omega)).trans upd_s) ?_
          refine gx_bipush (v := -6) hC dX7_isStrip_74 bp_m6 ?_
          refine gx_icmp_ne (tgt := 83) hC dX7_isStrip_76 (by decide) (fun c_76 => ?_) (fun c_76 => ?_)
          · exact absurd rfl c_76
          · refine gx_iconst (v := nI 0) hC dX7_isStrip_79 ic_0n ?_
            refine gx_goto (tgt := 84) hC dX7_isStrip_80 (by decide) ?_
            refine gx_iadd hC dX7_isStrip_84 ?_
            rw [nI_add]
            refine gx_putI hC dX7_isStrip_85 fl_X7_154 (by first | exact gM.at215 | exact gM.at216 | exact gM.at217 | exact gM.at218 | exact gM.at219 | exact gM.at220 | exact gM.at221 | exact gM.at222 | exact gM.at223 | exact gM.at224 | exact gM.at225) fn_6_8 rfl (pMm_p) ?_
            refine gx_aload_n (i := 0) hC dX7_isStrip_88 rfl rfl (by first | exact Or.inr ⟨_, rfl⟩ | exact Or.inl rfl | exact kv_isR | exact aref_isR) ?_
            refine gx_getR hC dX7_isStrip_89 fl_X7_29 (by first | exact gM.at215 | exact gM.at216 | exact gM.at217 | exact gM.at218 | exact gM.at219 | exact gM.at220 | exact gM.at221 | exact gM.at222 | exact gM.at223 | exact gM.at224 | exact gM.at225) rfl (gM.r222) (by decide) ?_
            refine gx_iconst (v := nI 1) hC dX7_isStrip_92 ic_1n ?_
            refine gx_iald hC dX7_isStrip_93 (by first | exact gM.at215 | exact gM.at216 | exact gM.at217 | exact gM.at218 | exact gM.at219 | exact gM.at220 | exact gM.at221 | exact gM.at222 | exact gM.at223 | exact gM.at224 | exact gM.at225) (by exact vpn (by omega) (by decide)) ((pMm_n (by omega)).trans upd_s) ?_
            refine gx_bipush (v := -6) hC dX7_isStrip_94 bp_m6 ?_
            refine gx_icmp_eq (tgt := 135) hC dX7_isStrip_96 (by decide) (fun c_96 => ?_) (fun c_96 => ?_)
            · refine gx_iconst (v := 0) hC dX7_isStrip_135 ic_0 ?_
              exact gx_zret hC hQ dX7_isStrip_136 (by first | exact Or.inl rfl | exact Or.inr rfl | exact b2_bit _) ((by unfold mSb; rw [if_pos c_6, if_pos hkd]; rfl)) ((by unfold mSb mSk; rw [if_pos c_6, if_pos hkd, if_pos c_6, if_pos hkd, hkd])) rfl
            · exact absurd rfl c_96
        · refine gx_iconst (v := 2) hC dX7_isStrip_56 ic_2 ?_
          refine gx_goto (tgt := 62) hC dX7_isStrip_57 (by decide) ?_
          have hkd : mKd s L (p + 1) = 2 := by unfold mKd; rw [if_neg c_27, if_neg c_40, if_pos c_53]
          refine gx_iastM hC dX7_isStrip_62 (by first | exact gM.at215 | exact gM.at216 | exact gM.at217 | exact gM.at218 | exact gM.at219 | exact gM.at220 | exact gM.at221 | exact gM.at222 | exact gM.at223 | exact gM.at224 | exact gM.at225) (by exact vpn (by omega) (by decide)) (pMm_tn (by omega)) ?_
          refine gx_aload_n (i := 0) hC dX7_isStrip_63 rfl rfl (by first | exact Or.inr ⟨_, rfl⟩ | exact Or.inl rfl | exact kv_isR | exact aref_isR) ?_
          refine gx_dup hC dX7_isStrip_64 (by first | rfl | exact isR_cat kv_isR | exact isR_cat aref_isR) ?_
          refine gx_getI hC dX7_isStrip_65 fl_X7_154 (by first | exact gM.at215 | exact gM.at216 | exact gM.at217 | exact gM.at218 | exact gM.at219 | exact gM.at220 | exact gM.at221 | exact gM.at222 | exact gM.at223 | exact gM.at224 | exact gM.at225) (by decide) (pMm_8) ?_
          refine gx_aload_n (i := 0) hC dX7_isStrip_68 rfl rfl (by first | exact Or.inr ⟨_, rfl⟩ | exact Or.inl rfl | exact kv_isR | exact aref_isR) ?_
          refine gx_getR hC dX7_isStrip_69 fl_X7_29 (by first | exact gM.at215 | exact gM.at216 | exact gM.at217 | exact gM.at218 | exact gM.at219 | exact gM.at220 | exact gM.at221 | exact gM.at222 | exact gM.at223 | exact gM.at224 | exact gM.at225) rfl (gM.r222) (by decide) ?_
          refine gx_iconst (v := nI 1) hC dX7_isStrip_72 ic_1n ?_
          refine gx_iald hC dX7_isStrip_73 (by first | exact gM.at215 | exact gM.at216 | exact gM.at217 | exact gM.at218 | exact gM.at219 | exact gM.at220 | exact gM.at221 | exact gM.at222 | exact gM.at223 | exact gM.at224 | exact gM.at225) (by exact vpn (by omega) (by decide)) ((pMm_n (by omega)).trans upd_s) ?_
          refine gx_bipush (v := -6) hC dX7_isStrip_74 bp_m6 ?_
          refine gx_icmp_ne (tgt := 83) hC dX7_isStrip_76 (by decide) (fun c_76 => ?_) (fun c_76 => ?_)
          · refine gx_iconst (v := nI 1) hC dX7_isStrip_83 ic_1n ?_
            refine gx_iadd hC dX7_isStrip_84 ?_
            rw [nI_add]
            refine gx_putI hC dX7_isStrip_85 fl_X7_154 (by first | exact gM.at215 | exact gM.at216 | exact gM.at217 | exact gM.at218 | exact gM.at219 | exact gM.at220 | exact gM.at221 | exact gM.at222 | exact gM.at223 | exact gM.at224 | exact gM.at225) fn_6_8 rfl (pMm_p) ?_
            refine gx_aload_n (i := 0) hC dX7_isStrip_88 rfl rfl (by first | exact Or.inr ⟨_, rfl⟩ | exact Or.inl rfl | exact kv_isR | exact aref_isR) ?_
            refine gx_getR hC dX7_isStrip_89 fl_X7_29 (by first | exact gM.at215 | exact gM.at216 | exact gM.at217 | exact gM.at218 | exact gM.at219 | exact gM.at220 | exact gM.at221 | exact gM.at222 | exact gM.at223 | exact gM.at224 | exact gM.at225) rfl (gM.r222) (by decide) ?_
            refine gx_iconst (v := nI 1) hC dX7_isStrip_92 ic_1n ?_
            refine gx_iald hC dX7_isStrip_93 (by first | exact gM.at215 | exact gM.at216 | exact gM.at217 | exact gM.at218 | exact gM.at219 | exact gM.at220 | exact gM.at221 | exact gM.at222 | exact gM.at223 | exact gM.at224 | exact gM.at225) (by exact vpn (by omega) (by decide)) ((pMm_n (by omega)).trans upd_s) ?_
            refine gx_bipush (v := -6) hC dX7_isStrip_94 bp_m6 ?_
            refine gx_icmp_eq (tgt := 135) hC dX7_isStrip_96 (by decide) (fun c_96 => ?_) (fun c_96 => ?_)
            · exact absurd c_96 (by decide)
            · rw [show p + 1 + 1 = p + 2 from rfl]
              have hk6 : ¬ mKd s L (p + 1) = -6 := by rw [hkd]; decide
              have h_99 := mKd_p (s := s) (L := L) (p := p + 1) (by rw [hkd]; decide)
              have h_ip := mIp_p (s := s) (L := L) (p := p + 2) (a := 1) (b := 9999) (by omega)
              refine gx_aload_n (i := 0) hC dX7_isStrip_99 rfl rfl (by first | exact Or.inr ⟨_, rfl⟩ | exact Or.inl rfl | exact kv_isR | exact aref_isR) ?_
              refine gx_iconst (v := 1) hC dX7_isStrip_100 ic_1 ?_
              refine gx_sipush (v := 9999) hC dX7_isStrip_101 sp_9999 ?_
              refine gx_iconst (v := nI 2) hC dX7_isStrip_104 ic_2n ?_
              refine gx_callV1 hC dX7_isStrip_105 (c_X7_isNumber _ _ gM hs hL hL8 (by omega) (by decide) _ _) kY_X7_isNumber kV_X7_isNumber ml_X7_166 (by first | exact gM.at215 | exact gM.at216 | exact gM.at217 | exact gM.at218 | exact gM.at219 | exact gM.at220 | exact gM.at221 | exact gM.at222 | exact gM.at223 | exact gM.at224 | exact gM.at225) rfl (by decide) rfl rfl rfl (by first | exact Nat.le_of_ble_eq_true rfl | (simp [Value.category, isR_cat kv_isR, isR_cat aref_isR]; done)) (Nat.le_refl _) (Nat.le_refl _) ?_
              refine gx_ifb_eq (tgt := 135) hC dX7_isStrip_108 (by decide) (fun c_108 => ?_) (fun c_108 => ?_)
              · refine gx_iconst (v := 0) hC dX7_isStrip_135 ic_0 ?_
                exact gx_zret hC hQ dX7_isStrip_136 (by first | exact Or.inl rfl | exact Or.inr rfl | exact b2_bit _) ((by unfold mSb; rw [if_pos c_6, if_neg hk6, if_pos c_108]; rfl)) ((by unfold mSb mSk; rw [if_pos c_6, if_neg hk6, if_pos c_108, if_pos c_6, if_neg hk6, if_pos c_108, hkd])) rfl
              · refine gx_aload_n (i := 0) hC dX7_isStrip_111 rfl rfl (by first | exact Or.inr ⟨_, rfl⟩ | exact Or.inl rfl | exact kv_isR | exact aref_isR) ?_
                refine gx_bipush (v := 64) hC dX7_isStrip_112 bp_64 ?_
                refine gx_callV1 hC dX7_isStrip_114 (c_X7_takes _ _ gM hs hL hL8 (by omega) _ (by decide)) kY_X7_takes kV_X7_takes ml_X7_163 (by first | exact gM.at215 | exact gM.at216 | exact gM.at217 | exact gM.at218 | exact gM.at219 | exact gM.at220 | exact gM.at221 | exact gM.at222 | exact gM.at223 | exact gM.at224 | exact gM.at225) rfl (by decide) rfl rfl rfl (by first | exact Nat.le_of_ble_eq_true rfl | (simp [Value.category, isR_cat kv_isR, isR_cat aref_isR]; done)) (Nat.le_refl _) (Nat.le_refl _) ?_
                refine gx_ifb_eq (tgt := 135) hC dX7_isStrip_117 (by decide) (fun c_117 => ?_) (fun c_117 => ?_)
                · rw [c_117]
                  rw [show mIp s L (p + 2) 1 9999 + bN false = mIp s L (p + 2) 1 9999 from rfl]
                  refine gx_iconst (v := 0) hC dX7_isStrip_135 ic_0 ?_
                  exact gx_zret hC hQ dX7_isStrip_136 (by first | exact Or.inl rfl | exact Or.inr rfl | exact b2_bit _) ((by unfold mSb; rw [if_pos c_6, if_neg hk6, if_neg (bqt c_108), if_pos c_117]; rfl)) ((by unfold mSb mSk; rw [if_pos c_6, if_neg hk6, if_neg (bqt c_108), if_pos c_117, if_pos c_6, if_neg hk6, if_neg (bqt c_108), if_pos c_117, hkd])) rfl
                · rw [c_117]
                  rw [show mIp s L (p + 2) 1 9999 + bN true = mIp s L (p + 2) 1 9999 + 1 from rfl]
                  have h_117 := mTk_p (by decide) c_117
                  refine gx_aload_n (i := 0) hC dX7_isStrip_120 rfl rfl (by first | exact Or.inr ⟨_, rfl⟩ | exact Or.inl rfl | exact kv_isR | exact aref_isR) ?_
                  refine gx_iconst (v := 0) hC dX7_isStrip_121 ic_0 ?_
                  refine gx_bipush (v := 15) hC dX7_isStrip_122 bp_15 ?_
                  refine gx_iconst (v := nI 3) hC dX7_isStrip_124 ic_3n ?_
                  refine gx_callV1 hC dX7_isStrip_125 (c_X7_isNumber _ _ gM hs hL hL8 (by omega) (by decide) _ _) kY_X7_isNumber kV_X7_isNumber ml_X7_166 (by first | exact gM.at215 | exact gM.at216 | exact gM.at217 | exact gM.at218 | exact gM.at219 | exact gM.at220 | exact gM.at221 | exact gM.at222 | exact gM.at223 | exact gM.at224 | exact gM.at225) rfl (by decide) rfl rfl rfl (by first | exact Nat.le_of_ble_eq_true rfl | (simp [Value.category, isR_cat kv_isR, isR_cat aref_isR]; done)) (Nat.le_refl _) (Nat.le_refl _) ?_
                  refine gx_ifb_eq (tgt := 135) hC dX7_isStrip_128 (by decide) (fun c_128 => ?_) (fun c_128 => ?_)
                  · refine gx_iconst (v := 0) hC dX7_isStrip_135 ic_0 ?_
                    exact gx_zret hC hQ dX7_isStrip_136 (by first | exact Or.inl rfl | exact Or.inr rfl | exact b2_bit _) ((by unfold mSb; rw [if_pos c_6, if_neg hk6, if_neg (bqt c_108), if_neg (bqt c_117), c_128]; rfl)) ((by unfold mSb mSk; rw [if_pos c_6, if_neg hk6, if_neg (bqt c_108), if_neg (bqt c_117), if_pos c_6, if_neg hk6, if_neg (bqt c_108), if_neg (bqt c_117), hkd])) rfl
                  · refine gx_iconst (v := 1) hC dX7_isStrip_131 ic_1 ?_
                    refine gx_goto (tgt := 136) hC dX7_isStrip_132 (by decide) ?_
                    exact gx_zret hC hQ dX7_isStrip_136 (by first | exact Or.inl rfl | exact Or.inr rfl | exact b2_bit _) ((by unfold mSb; rw [if_pos c_6, if_neg hk6, if_neg (bqt c_108), if_neg (bqt c_117), c_128]; rfl)) ((by unfold mSb mSk; rw [if_pos c_6, if_neg hk6, if_neg (bqt c_108), if_neg (bqt c_117), if_pos c_6, if_neg hk6, if_neg (bqt c_108), if_neg (bqt c_117), hkd])) rfl
          · exact absurd c_76 (by decide)
      · refine gx_iconst (v := 1) hC dX7_isStrip_43 ic_1 ?_
        refine gx_goto (tgt := 62) hC dX7_isStrip_44 (by decide) ?_
        have hkd : mKd s L (p + 1) = 1 := by unfold mKd; rw [if_neg c_27, if_pos c_40]
        refine gx_iastM hC dX7_isStrip_62 (by first | exact gM.at215 | exact gM.at216 | exact gM.at217 | exact gM.at218 | exact gM.at219 | exact gM.at220 | exact gM.at221 | exact gM.at222 | exact gM.at223 | exact gM.at224 | exact gM.at225) (by exact vpn (by omega) (by decide)) (pMm_tn (by omega)) ?_
        refine gx_aload_n (i := 0) hC dX7_isStrip_63 rfl rfl (by first | exact Or.inr ⟨_, rfl⟩ | exact Or.inl rfl | exact kv_isR | exact aref_isR) ?_
        refine gx_dup hC dX7_isStrip_64 (by first | rfl | exact isR_cat kv_isR | exact isR_cat aref_isR) ?_
        refine gx_getI hC dX7_isStrip_65 fl_X7_154 (by first | exact gM.at215 | exact gM.at216 | exact gM.at217 | exact gM.at218 | exact gM.at219 | exact gM.at220 | exact gM.at221 | exact gM.at222 | exact gM.at223 | exact gM.at224 | exact gM.at225) (by decide) (pMm_8) ?_
        refine gx_aload_n (i := 0) hC dX7_isStrip_68 rfl rfl (by first | exact Or.inr ⟨_, rfl⟩ | exact Or.inl rfl | exact kv_isR | exact aref_isR) ?_
        refine gx_getR hC dX7_isStrip_69 fl_X7_29 (by first | exact gM.at215 | exact gM.at216 | exact gM.at217 | exact gM.at218 | exact gM.at219 | exact gM.at220 | exact gM.at221 | exact gM.at222 | exact gM.at223 | exact gM.at224 | exact gM.at225) rfl (gM.r222) (by decide) ?_
        refine gx_iconst (v := nI 1) hC dX7_isStrip_72 ic_1n ?_
        refine gx_iald hC dX7_isStrip_73 (by first | exact gM.at215 | exact gM.at216 | exact gM.at217 | exact gM.at218 | exact gM.at219 | exact gM.at220 | exact gM.at221 | exact gM.at222 | exact gM.at223 | exact gM.at224 | exact gM.at225) (by exact vpn (by omega) (by decide)) ((pMm_n (by omega)).trans upd_s) ?_
        refine gx_bipush (v := -6) hC dX7_isStrip_74 bp_m6 ?_
        refine gx_icmp_ne (tgt := 83) hC dX7_isStrip_76 (by decide) (fun c_76 => ?_) (fun c_76 => ?_)
        · refine gx_iconst (v := nI 1) hC dX7_isStrip_83 ic_1n ?_
          refine gx_iadd hC dX7_isStrip_84 ?_
          rw [nI_add]
          refine gx_putI hC dX7_isStrip_85 fl_X7_154 (by first | exact gM.at215 | exact gM.at216 | exact gM.at217 | exact gM.at218 | exact gM.at219 | exact gM.at220 | exact gM.at221 | exact gM.at222 | exact gM.at223 | exact gM.at224 | exact gM.at225) fn_6_8 rfl (pMm_p) ?_
          refine gx_aload_n (i := 0) hC dX7_isStrip_88 rfl rfl (by first | exact Or.inr ⟨_, rfl⟩ | exact Or.inl rfl | exact kv_isR | exact aref_isR) ?_
          refine gx_getR hC dX7_isStrip_89 fl_X7_29 (by first | exact gM.at215 | exact gM.at216 | exact gM.at217 | exact gM.at218 | exact gM.at219 | exact gM.at220 | exact gM.at221 | exact gM.at222 | exact gM.at223 | exact gM.at224 | exact gM.at225) rfl (gM.r222) (by decide) ?_
          refine gx_iconst (v := nI 1) hC dX7_isStrip_92 ic_1n ?_
          refine gx_iald hC dX7_isStrip_93 (by first | exact gM.at215 | exact gM.at216 | exact gM.at217 | exact gM.at218 | exact gM.at219 | exact gM.at220 | exact gM.at221 | exact gM.at222 | exact gM.at223 | exact gM.at224 | exact gM.at225) (by exact vpn (by omega) (by decide)) ((pMm_n (by omega)).trans upd_s) ?_
          refine gx_bipush (v := -6) hC dX7_isStrip_94 bp_m6 ?_
          refine gx_icmp_eq (tgt := 135) hC dX7_isStrip_96 (by decide) (fun c_96 => ?_) (fun c_96 => ?_)
          · exact absurd c_96 (by decide)
          · rw [show p + 1 + 1 = p + 2 from rfl]
            have hk6 : ¬ mKd s L (p + 1) = -6 := by rw [hkd]; decide
            have h_99 := mKd_p (s := s) (L := L) (p := p + 1) (by rw [hkd]; decide)
            have h_ip := mIp_p (s := s) (L := L) (p := p + 2) (a := 1) (b := 9999) (by omega)
            refine gx_aload_n (i := 0) hC dX7_isStrip_99 rfl rfl (by first | exact Or.inr ⟨_, rfl⟩ | exact Or.inl rfl | exact kv_isR | exact aref_isR) ?_
            refine gx_iconst (v := 1) hC dX7_isStrip_100 ic_1 ?_
            refine gx_sipush (v := 9999) hC dX7_isStrip_101 sp_9999 ?_
            refine gx_iconst (v := nI 2) hC dX7_isStrip_104 ic_2n ?_
            refine gx_callV1 hC dX7_isStrip_105 (c_X7_isNumber _ _ gM hs hL hL8 (by omega) (by decide) _ _) kY_X7_isNumber kV_X7_isNumber ml_X7_166 (by first | exact gM.at215 | exact gM.at216 | exact gM.at217 | exact gM.at218 | exact gM.at219 | exact gM.at220 | exact gM.at221 | exact gM.at222 | exact gM.at223 | exact gM.at224 | exact gM.at225) rfl (by decide) rfl rfl rfl (by first | exact Nat.le_of_ble_eq_true rfl | (simp [Value.category, isR_cat kv_isR, isR_cat aref_isR]; done)) (Nat.le_refl _) (Nat.le_refl _) ?_
            refine gx_ifb_eq (tgt := 135) hC dX7_isStrip_108 (by decide) (fun c_108 => ?_) (fun c_108 => ?_)
            · refine gx_iconst (v := 0) hC dX7_isStrip_135 ic_0 ?_
              exact gx_zret hC hQ dX7_isStrip_136 (by first | exact Or.inl rfl | exact Or.inr rfl | exact b2_bit _) ((by unfold mSb; rw [if_pos c_6, if_neg hk6, if_pos c_108]; rfl)) ((by unfold mSb mSk; rw [if_pos c_6, if_neg hk6, if_pos c_108, if_pos c_6, if_neg hk6, if_pos c_108, hkd])) rfl
            · refine gx_aload_n (i := 0) hC dX7_isStrip_111 rfl rfl (by first | exact Or.inr ⟨_, rfl⟩ | exact Or.inl rfl | exact kv_isR | exact aref_isR) ?_
              refine gx_bipush (v := 64) hC dX7_isStrip_112 bp_64 ?_
              refine gx_callV1 hC dX7_isStrip_114 (c_X7_takes _ _ gM hs hL hL8 (by omega) _ (by decide)) kY_X7_takes kV_X7_takes ml_X7_163 (by first | exact gM.at215 | exact gM.at216 | exact gM.at217 | exact gM.at218 | exact gM.at219 | exact gM.at220 | exact gM.at221 | exact gM.at222 | exact gM.at223 | exact gM.at224 | exact gM.at225) rfl (by decide) rfl rfl rfl (by first | exact Nat.le_of_ble_eq_true rfl | (simp [Value.category, isR_cat kv_isR, isR_cat aref_isR]; done)) (Nat.le_refl _) (Nat.le_refl _) ?_
              refine gx_ifb_eq (tgt := 135) hC dX7_isStrip_117 (by decide) (fun c_117 => ?_) (fun c_117 => ?_)
              · rw [c_117]
                rw [show mIp s L (p + 2) 1 9999 + bN false = mIp s L (p + 2) 1 9999 from rfl]
                refine gx_iconst (v := 0) hC dX7_isStrip_135 ic_0 ?_
                exact gx_zret hC hQ dX7_isStrip_136 (by first | exact Or.inl rfl | exact Or.inr rfl | exact b2_bit _) ((by unfold mSb; rw [if_pos c_6, if_neg hk6, if_neg (bqt c_108), if_pos c_117]; rfl)) ((by unfold mSb mSk; rw [if_pos c_6, if_neg hk6, if_neg (bqt c_108), if_pos c_117, if_pos c_6, if_neg hk6, if_neg (bqt c_108), if_pos c_117, hkd])) rfl
              · rw [c_117]
                rw [show mIp s L (p + 2) 1 9999 + bN true = mIp s L (p + 2) 1 9999 + 1 from rfl]
                have h_117 := mTk_p (by decide) c_117
                refine gx_aload_n (i := 0) hC dX7_isStrip_120 rfl rfl (by first | exact Or.inr ⟨_, rfl⟩ | exact Or.inl rfl | exact kv_isR | exact aref_isR) ?_
                refine gx_iconst (v := 0) hC dX7_isStrip_121 ic_0 ?_
                refine gx_bipush (v := 15) hC dX7_isStrip_122 bp_15 ?_
                refine gx_iconst (v := nI 3) hC dX7_isStrip_124 ic_3n ?_
                refine gx_callV1 hC dX7_isStrip_125 (c_X7_isNumber _ _ gM hs hL hL8 (by omega) (by decide) _ _) kY_X7_isNumber kV_X7_isNumber ml_X7_166 (by first | exact gM.at215 | exact gM.at216 | exact gM.at217 | exact gM.at218 | exact gM.at219 | exact gM.at220 | exact gM.at221 | exact gM.at222 | exact gM.at223 | exact gM.at224 | exact gM.at225) rfl (by decide) rfl rfl rfl (by first | exact Nat.le_of_ble_eq_true rfl | (simp [Value.category, isR_cat kv_isR, isR_cat aref_isR]; done)) (Nat.le_refl _) (Nat.le_refl _) ?_
                refine gx_ifb_eq (tgt := 135) hC dX7_isStrip_128 (by decide) (fun c_128 => ?_) (fun c_128 => ?_)
                · refine gx_iconst (v := 0) hC dX7_isStrip_135 ic_0 ?_
                  exact gx_zret hC hQ dX7_isStrip_136 (by first | exact Or.inl rfl | exact Or.inr rfl | exact b2_bit _) ((by unfold mSb; rw [if_pos c_6, if_neg hk6, if_neg (bqt c_108), if_neg (bqt c_117), c_128]; rfl)) ((by unfold mSb mSk; rw [if_pos c_6, if_neg hk6, if_neg (bqt c_108), if_neg (bqt c_117), if_pos c_6, if_neg hk6, if_neg (bqt c_108), if_neg (bqt c_117), hkd])) rfl
                · refine gx_iconst (v := 1) hC dX7_isStrip_131 ic_1 ?_
                  refine gx_goto (tgt := 136) hC dX7_isStrip_132 (by decide) ?_
                  exact gx_zret hC hQ dX7_isStrip_136 (by first | exact Or.inl rfl | exact Or.inr rfl | exact b2_bit _) ((by unfold mSb; rw [if_pos c_6, if_neg hk6, if_neg (bqt c_108), if_neg (bqt c_117), c_128]; rfl)) ((by unfold mSb mSk; rw [if_pos c_6, if_neg hk6, if_neg (bqt c_108), if_neg (bqt c_117), if_pos c_6, if_neg hk6, if_neg (bqt c_108), if_neg (bqt c_117), hkd])) rfl
        · exact absurd c_76 (by decide)
    · refine gx_iconst (v := 0) hC dX7_isStrip_30 ic_0 ?_
      refine gx_goto (tgt := 62) hC dX7_isStrip_31 (by decide) ?_
      have hkd : mKd s L (p + 1) = 0 := by unfold mKd; rw [if_pos c_27]
      refine gx_iastM hC dX7_isStrip_62 (by first | exact gM.at215 | exact gM.at216 | exact gM.at217 | exact gM.at218 | exact gM.at219 | exact gM.at220 | exact gM.at221 | exact gM.at222 | exact gM.at223 | exact gM.at224 | exact gM.at225) (by exact vpn (by omega) (by decide)) (pMm_tn (by omega)) ?_
      refine gx_aload_n (i := 0) hC dX7_isStrip_63 rfl rfl (by first | exact Or.inr ⟨_, rfl⟩ | exact Or.inl rfl | exact kv_isR | exact aref_isR) ?_
      refine gx_dup hC dX7_isStrip_64 (by first | rfl | exact isR_cat kv_isR | exact isR_cat aref_isR) ?_
      refine gx_getI hC dX7_isStrip_65 fl_X7_154 (by first | exact gM.at215 | exact gM.at216 | exact gM.at217 | exact gM.at218 | exact gM.at219 | exact gM.at220 | exact gM.at221 | exact gM.at222 | exact gM.at223 | exact gM.at224 | exact gM.at225) (by decide) (pMm_8) ?_
      refine gx_aload_n (i := 0) hC dX7_isStrip_68 rfl rfl (by first | exact Or.inr ⟨_, rfl⟩ | exact Or.inl rfl | exact kv_isR | exact aref_isR) ?_
      refine gx_getR hC dX7_isStrip_69 fl_X7_29 (by first | exact gM.at215 | exact gM.at216 | exact gM.at217 | exact gM.at218 | exact gM.at219 | exact gM.at220 | exact gM.at221 | exact gM.at222 | exact gM.at223 | exact gM.at224 | exact gM.at225) rfl (gM.r222) (by decide) ?_
      refine gx_iconst (v := nI 1) hC dX7_isStrip_72 ic_1n ?_
      refine gx_iald hC dX7_isStrip_73 (by first | exact gM.at215 | exact gM.at216 | exact gM.at217 | exact gM.at218 | exact gM.at219 | exact gM.at220 | exact gM.at221 | exact gM.at222 | exact gM.at223 | exact gM.at224 | exact gM.at225) (by exact vpn (by omega) (by decide)) ((pMm_n (by omega)).trans upd_s) ?_
      refine gx_bipush (v := -6) hC dX7_isStrip_74 bp_m6 ?_
      refine gx_icmp_ne (tgt := 83) hC dX7_isStrip_76 (by decide) (fun c_76 => ?_) (fun c_76 => ?_)
      · refine gx_iconst (v := nI 1) hC dX7_isStrip_83 ic_1n ?_
        refine gx_iadd hC dX7_isStrip_84 ?_
        rw [nI_add]
        refine gx_putI hC dX7_isStrip_85 fl_X7_154 (by first | exact gM.at215 | exact gM.at216 | exact gM.at217 | exact gM.at218 | exact gM.at219 | exact gM.at220 | exact gM.at221 | exact gM.at222 | exact gM.at223 | exact gM.at224 | exact gM.at225) fn_6_8 rfl (pMm_p) ?_
        refine gx_aload_n (i := 0) hC dX7_isStrip_88 rfl rfl (by first | exact Or.inr ⟨_, rfl⟩ | exact Or.inl rfl | exact kv_isR | exact aref_isR) ?_
        refine gx_getR hC dX7_isStrip_89 fl_X7_29 (by first | exact gM.at215 | exact gM.at216 | exact gM.at217 | exact gM.at218 | exact gM.at219 | exact gM.at220 | exact gM.at221 | exact gM.at222 | exact gM.at223 | exact gM.at224 | exact gM.at225) rfl (gM.r222) (by decide) ?_
        refine gx_iconst (v := nI 1) hC dX7_isStrip_92 ic_1n ?_
        refine gx_iald hC dX7_isStrip_93 (by first | exact gM.at215 | exact gM.at216 | exact gM.at217 | exact gM.at218 | exact gM.at219 | exact gM.at220 | exact gM.at221 | exact gM.at222 | exact gM.at223 | exact gM.at224 | exact gM.at225) (by exact vpn (by omega) (by decide)) ((pMm_n (by omega)).trans upd_s) ?_
        refine gx_bipush (v := -6) hC dX7_isStrip_94 bp_m6 ?_
        refine gx_icmp_eq (tgt := 135) hC dX7_isStrip_96 (by decide) (fun c_96 => ?_) (fun c_96 => ?_)
        · exact absurd c_96 (by decide)
        · rw [show p + 1 + 1 = p + 2 from rfl]
          have hk6 : ¬ mKd s L (p + 1) = -6 := by rw [hkd]; decide
          have h_99 := mKd_p (s := s) (L := L) (p := p + 1) (by rw [hkd]; decide)
          have h_ip := mIp_p (s := s) (L := L) (p := p + 2) (a := 1) (b := 9999) (by omega)
          refine gx_aload_n (i := 0) hC dX7_isStrip_99 rfl rfl (by first | exact Or.inr ⟨_, rfl⟩ | exact Or.inl rfl | exact kv_isR | exact aref_isR) ?_
          refine gx_iconst (v := 1) hC dX7_isStrip_100 ic_1 ?_
          refine gx_sipush (v := 9999) hC dX7_isStrip_101 sp_9999 ?_
          refine gx_iconst (v := nI 2) hC dX7_isStrip_104 ic_2n ?_
          refine gx_callV1 hC dX7_isStrip_105 (c_X7_isNumber _ _ gM hs hL hL8 (by omega) (by decide) _ _) kY_X7_isNumber kV_X7_isNumber ml_X7_166 (by first | exact gM.at215 | exact gM.at216 | exact gM.at217 | exact gM.at218 | exact gM.at219 | exact gM.at220 | exact gM.at221 | exact gM.at222 | exact gM.at223 | exact gM.at224 | exact gM.at225) rfl (by decide) rfl rfl rfl (by first | exact Nat.le_of_ble_eq_true rfl | (simp [Value.category, isR_cat kv_isR, isR_cat aref_isR]; done)) (Nat.le_refl _) (Nat.le_refl _) ?_
          refine gx_ifb_eq (tgt := 135) hC dX7_isStrip_108 (by decide) (fun c_108 => ?_) (fun c_108 => ?_)
          · refine gx_iconst (v := 0) hC dX7_isStrip_135 ic_0 ?_
            exact gx_zret hC hQ dX7_isStrip_136 (by first | exact Or.inl rfl | exact Or.inr rfl | exact b2_bit _) ((by unfold mSb; rw [if_pos c_6, if_neg hk6, if_pos c_108]; rfl)) ((by unfold mSb mSk; rw [if_pos c_6, if_neg hk6, if_pos c_108, if_pos c_6, if_neg hk6, if_pos c_108, hkd])) rfl
          · refine gx_aload_n (i := 0) hC dX7_isStrip_111 rfl rfl (by first | exact Or.inr ⟨_, rfl⟩ | exact Or.inl rfl | exact kv_isR | exact aref_isR) ?_
            refine gx_bipush (v := 64) hC dX7_isStrip_112 bp_64 ?_
            refine gx_callV1 hC dX7_isStrip_114 (c_X7_takes _ _ gM hs hL hL8 (by omega) _ (by decide)) kY_X7_takes kV_X7_takes ml_X7_163 (by first | exact gM.at215 | exact gM.at216 | exact gM.at217 | exact gM.at218 | exact gM.at219 | exact gM.at220 | exact gM.at221 | exact gM.at222 | exact gM.at223 | exact gM.at224 | exact gM.at225) rfl (by decide) rfl rfl rfl (by first | exact Nat.le_of_ble_eq_true rfl | (simp [Value.category, isR_cat kv_isR, isR_cat aref_isR]; done)) (Nat.le_refl _) (Nat.le_refl _) ?_
            refine gx_ifb_eq (tgt := 135) hC dX7_isStrip_117 (by decide) (fun c_117 => ?_) (fun c_117 => ?_)
            · rw [c_117]
              rw [show mIp s L (p + 2) 1 9999 + bN false = mIp s L (p + 2) 1 9999 from rfl]
              refine gx_iconst (v := 0) hC dX7_isStrip_135 ic_0 ?_
              exact gx_zret hC hQ dX7_isStrip_136 (by first | exact Or.inl rfl | exact Or.inr rfl | exact b2_bit _) ((by unfold mSb; rw [if_pos c_6, if_neg hk6, if_neg (bqt c_108), if_pos c_117]; rfl)) ((by unfold mSb mSk; rw [if_pos c_6, if_neg hk6, if_neg (bqt c_108), if_pos c_117, if_pos c_6, if_neg hk6, if_neg (bqt c_108), if_pos c_117, hkd])) rfl
            · rw [c_117]
              rw [show mIp s L (p + 2) 1 9999 + bN true = mIp s L (p + 2) 1 9999 + 1 from rfl]
              have h_117 := mTk_p (by decide) c_117
              refine gx_aload_n (i := 0) hC dX7_isStrip_120 rfl rfl (by first | exact Or.inr ⟨_, rfl⟩ | exact Or.inl rfl | exact kv_isR | exact aref_isR) ?_
              refine gx_iconst (v := 0) hC dX7_isStrip_121 ic_0 ?_
              refine gx_bipush (v := 15) hC dX7_isStrip_122 bp_15 ?_
              refine gx_iconst (v := nI 3) hC dX7_isStrip_124 ic_3n ?_
              refine gx_callV1 hC dX7_isStrip_125 (c_X7_isNumber _ _ gM hs hL hL8 (by omega) (by decide) _ _) kY_X7_isNumber kV_X7_isNumber ml_X7_166 (by first | exact gM.at215 | exact gM.at216 | exact gM.at217 | exact gM.at218 | exact gM.at219 | exact gM.at220 | exact gM.at221 | exact gM.at222 | exact gM.at223 | exact gM.at224 | exact gM.at225) rfl (by decide) rfl rfl rfl (by first | exact Nat.le_of_ble_eq_true rfl | (simp [Value.category, isR_cat kv_isR, isR_cat aref_isR]; done)) (Nat.le_refl _) (Nat.le_refl _) ?_
              refine gx_ifb_eq (tgt := 135) hC dX7_isStrip_128 (by decide) (fun c_128 => ?_) (fun c_128 => ?_)
              · refine gx_iconst (v := 0) hC dX7_isStrip_135 ic_0 ?_
                exact gx_zret hC hQ dX7_isStrip_136 (by first | exact Or.inl rfl | exact Or.inr rfl | exact b2_bit _) ((by unfold mSb; rw [if_pos c_6, if_neg hk6, if_neg (bqt c_108), if_neg (bqt c_117), c_128]; rfl)) ((by unfold mSb mSk; rw [if_pos c_6, if_neg hk6, if_neg (bqt c_108), if_neg (bqt c_117), if_pos c_6, if_neg hk6, if_neg (bqt c_108), if_neg (bqt c_117), hkd])) rfl
              · refine gx_iconst (v := 1) hC dX7_isStrip_131 ic_1 ?_
                refine gx_goto (tgt := 136) hC dX7_isStrip_132 (by decide) ?_
                exact gx_zret hC hQ dX7_isStrip_136 (by first | exact Or.inl rfl | exact Or.inr rfl | exact b2_bit _) ((by unfold mSb; rw [if_pos c_6, if_neg hk6, if_neg (bqt c_108), if_neg (bqt c_117), c_128]; rfl)) ((by unfold mSb mSk; rw [if_pos c_6, if_neg hk6, if_neg (bqt c_108), if_neg (bqt c_117), if_pos c_6, if_neg hk6, if_neg (bqt c_108), if_neg (bqt c_117), hkd])) rfl
      · exact absurd c_76 (by decide)
