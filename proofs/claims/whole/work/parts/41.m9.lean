/-! the model: the text -/
theorem up2_comm {M : hMem} {a k b j : Nat} {x y : Int32} (h : ¬ (a = b ∧ k = j)) : up2 (up2 M a k x) b j y = up2 (up2 M b j y) a k x := by
  funext i q
  simp only [up2]
  by_cases h1 : i = b ∧ q = j
  · rw [if_pos h1, if_pos h1, if_neg (by omega)]
  · rw [if_neg h1, if_neg h1]
theorem b2_1 {e : Bool} (h : ¬ b2 e = 0) : e = true := by
  cases e
  · exact absurd rfl h
  · rfl
/-- the model's memory while it reads: what it told itself, where it is -/
def pMm (M : hMem) (t : Nat → Int32) (p : Nat) : hMem := up2 (putRow M 222 t) 215 8 (nI p)
theorem pMm_t {M : hMem} {t : Nat → Int32} {p k : Nat} {x : Int32} : up2 (pMm M t p) 222 k x = pMm M (upd t k x) p := by
  unfold pMm
  rw [up2_comm (fun e => absurd e.1 (by decide)), up_R]
theorem pMm_p {M : hMem} {t : Nat → Int32} {p p2 : Nat} : up2 (pMm M t p) 215 8 (nI p2) = pMm M t p2 := up2_up
theorem pMm_8 {M : hMem} {t : Nat → Int32} {p : Nat} : pMm M t p 215 8 = nI p := up2_same
theorem pMm_222 {M : hMem} {t : Nat → Int32} {p k : Nat} : pMm M t p 222 k = t k := (up2_off (fun e => absurd e.1 (by decide))).trans pRs
theorem pMm_n {M : hMem} {t : Nat → Int32} {p k : Nat} (h : k < 2 ^ 31) : pMm M t p 222 (nI k).toNatClampNeg = t k := by rw [nI_clamp h, pMm_222]
theorem pMm_tn {M : hMem} {t : Nat → Int32} {p k : Nat} {x : Int32} (h : k < 2 ^ 31) : up2 (pMm M t p) 222 (nI k).toNatClampNeg x = pMm M (upd t k x) p := by rw [nI_clamp h, pMm_t]
theorem pMm_o {M : hMem} {t : Nat → Int32} {p i k : Nat} (h1 : i ≠ 222) (h2 : ¬ (i = 215 ∧ k = 8)) : pMm M t p i k = M i k := (up2_off h2).trans (pRo h1)
theorem pMm_R {M : hMem} {t v : Nat → Int32} {p : Nat} : pMm (putRow M 216 v) t p = putRow (pMm M t p) 216 v := by
  unfold pMm
  rw [pR_o (by decide), up_Ro (by decide)]
theorem pMm_self {M : hMem} {p : Nat} (h : M 215 8 = nI p) : pMm M (M 222) p = M := by
  unfold pMm
  rw [putRow_get, ← h, up2_self]
/-- the character at place p, or -1 -/
def mHe (s : Nat → Int32) (L p : Nat) : Int32 := if p < L then s p else -1
def bN (b : Bool) : Nat := match b with
  | true => 1
  | false => 0
def mTk (s : Nat → Int32) (L p : Nat) (x : Int32) : Bool := decide (mHe s L p = x)
def mDg (s : Nat → Int32) (L p : Nat) : Int32 := if bIn (mHe s L p) 48 57 = true then mHe s L p - 48 else -1
def mNl (s : Nat → Int32) (L : Nat) : Nat → Nat → Int32 → Int32 × Nat
  | 0, p, x => (x, p)
  | f + 1, p, x => if mDg s L p < 0 then (x, p) else mNl s L f (p + 1) (10 * x + mDg s L p)
/-- the number at place p and the place behind it -/
def mNu (s : Nat → Int32) (L p : Nat) : Option (Int32 × Nat) := if mDg s L p < 0 then none else if mDg s L p = 0 then some (mDg s L p, p + 1) else some (mNl s L 3 (p + 1) (mDg s L p))
def mIs (s : Nat → Int32) (L p : Nat) (a b : Int32) : Bool := match mNu s L p with
  | none => false
  | some q => bIn q.1 a b
def mIt (s : Nat → Int32) (L p : Nat) (t : Nat → Int32) (k : Nat) : Nat → Int32 := match mNu s L p with
  | none => t
  | some q => upd t k q.1
def mIp (s : Nat → Int32) (L p : Nat) (a b : Int32) : Nat := match mNu s L p with
  | none => p
  | some q => if bIn q.1 a b = true then q.2 else p
theorem mHe_p {s : Nat → Int32} {L p : Nat} (h : ¬ mHe s L p = -1) : p < L := by
  unfold mHe at h
  by_cases h1 : p < L
  · exact h1
  · rw [if_neg h1] at h; exact absurd rfl h
theorem mDg_p {s : Nat → Int32} {L p : Nat} (h : ¬ mDg s L p < 0) : p < L := by
  unfold mDg at h
  split at h
  · next h1 => exact mHe_p (fun e => by rw [e] at h1; exact absurd h1 (by decide))
  · exact absurd (by decide) h
theorem mNl_p {s : Nat → Int32} {L f p : Nat} {x : Int32} (hp : p ≤ L) : p ≤ (mNl s L f p x).2 ∧ (mNl s L f p x).2 ≤ L := by
  induction f generalizing p x with
  | zero => exact ⟨Nat.le_refl _, hp⟩
  | succ f ih =>
    rw [mNl]
    split
    · exact ⟨Nat.le_refl _, hp⟩
    · next h1 =>
      have := mDg_p h1
      have := ih (p := p + 1) (x := 10 * x + mDg s L p) (by omega)
      exact ⟨by omega, this.2⟩
theorem mNu_p {s : Nat → Int32} {L p : Nat} {q : Int32 × Nat} (h : mNu s L p = some q) : p < q.2 ∧ q.2 ≤ L := by
  unfold mNu at h
  split at h
  · cases h
  · next h1 =>
    have hp := mDg_p h1
    split at h
    · cases h; exact ⟨Nat.lt_succ_self _, hp⟩
    · cases h
      have := mNl_p (s := s) (L := L) (f := 3) (p := p + 1) (x := mDg s L p) hp
      exact ⟨by omega, this.2⟩
theorem mIp_p {s : Nat → Int32} {L p : Nat} {a b : Int32} (hp : p ≤ L) : p ≤ mIp s L p a b ∧ mIp s L p a b ≤ L ∧ (mIs s L p a b = true → p < mIp s L p a b) := by
  unfold mIp mIs
  cases h : mNu s L p with
  | none => exact ⟨Nat.le_refl _, hp, fun e => by cases e⟩
  | some q =>
    have := mNu_p h
    simp only
    split
    · exact ⟨by omega, this.2, fun _ => this.1⟩
    · next h1 => exact ⟨Nat.le_refl _, hp, fun e => absurd e h1⟩
set_option maxHeartbeats 4000000 in
set_option maxRecDepth 20000 in
theorem c_X7_here (l : Launch) (z : hZt) {n : Nat} {M : hMem} {R : hRef} (gM : gMd n R) {s : Nat → Int32} {L : Nat} (hs : M 221 = s) (hL : M 215 7 = nI L) (hL8 : L ≤ 80) {t : Nat → Int32} {p : Nat} (hp : p ≤ L) : hCt l z m_X7_here [.ref (z.1 + 215)] n (pMm M t p) R n (some (.int (mHe s L p))) (pMm M t p) R := by
  refine hs_start [some (.ref (z.1 + 215))] (by decide +kernel) rfl (by intro u hu; simp at hu; subst hu <;> first | rfl | exact isR_cat kv_isR | exact isR_cat aref_isR) (Nat.le_of_ble_eq_true rfl) (Nat.le_refl _) (fun X hlX hN hC hQ => ?_)
  dsimp only at hC hQ
  refine gx_aload_n (i := 0) hC dX7_here_0 rfl rfl (by first | exact Or.inr ⟨_, rfl⟩ | exact Or.inl rfl | exact kv_isR | exact aref_isR) ?_
  refine gx_getI hC dX7_here_1 fl_X7_154 (by first | exact gM.at215 | exact gM.at216 | exact gM.at217 | exact gM.at218 | exact gM.at219 | exact gM.at220 | exact gM.at221 | exact gM.at222 | exact gM.at223 | exact gM.at224 | exact gM.at225) (by decide) (pMm_8) ?_
  refine gx_aload_n (i := 0) hC dX7_here_4 rfl rfl (by first | exact Or.inr ⟨_, rfl⟩ | exact Or.inl rfl | exact kv_isR | exact aref_isR) ?_
  refine gx_getI hC dX7_here_5 fl_X7_151 (by first | exact gM.at215 | exact gM.at216 | exact gM.at217 | exact gM.at218 | exact gM.at219 | exact gM.at220 | exact gM.at221 | exact gM.at222 | exact gM.at223 | exact gM.at224 | exact gM.at225) (by decide) ((pMm_o (by decide) (by decide)).trans hL) ?_
  refine gx_icmp_ge (tgt := 23) hC dX7_here_8 (by decide) (fun c_8 => ?_) (fun c_8 => ?_)
  · have d_8 := cle (by omega) (by omega) c_8
    refine gx_iconst (v := -1) hC dX7_here_23 ic_m1 ?_
    exact gx_iret hC hQ dX7_here_24 ((by unfold mHe; rw [if_neg (by omega)])) (rfl) rfl
  · have d_8 := cnle (by omega) (by omega) c_8
    refine gx_aload_n (i := 0) hC dX7_here_11 rfl rfl (by first | exact Or.inr ⟨_, rfl⟩ | exact Or.inl rfl | exact kv_isR | exact aref_isR) ?_
    refine gx_getR hC dX7_here_12 fl_X7_26 (by first | exact gM.at215 | exact gM.at216 | exact gM.at217 | exact gM.at218 | exact gM.at219 | exact gM.at220 | exact gM.at221 | exact gM.at222 | exact gM.at223 | exact gM.at224 | exact gM.at225) rfl (gM.r221) (by decide) ?_
    refine gx_aload_n (i := 0) hC dX7_here_15 rfl rfl (by first | exact Or.inr ⟨_, rfl⟩ | exact Or.inl rfl | exact kv_isR | exact aref_isR) ?_
    refine gx_getI hC dX7_here_16 fl_X7_154 (by first | exact gM.at215 | exact gM.at216 | exact gM.at217 | exact gM.at218 | exact gM.at219 | exact gM.at220 | exact gM.at221 | exact gM.at222 | exact gM.at223 | exact gM.at224 | exact gM.at225) (by decide) (pMm_8) ?_
    refine gx_iald hC dX7_here_19 (by first | exact gM.at215 | exact gM.at216 | exact gM.at217 | exact gM.at218 | exact gM.at219 | exact gM.at220 | exact gM.at221 | exact gM.at222 | exact gM.at223 | exact gM.at224 | exact gM.at225) (by exact vpn (by omega) (by decide)) ((pMm_o (by decide) (fun e => absurd e.1 (by decide))).trans ((congrFun hs _).trans (congrArg s (nI_clamp (by omega))))) ?_
    refine gx_goto (tgt := 24) hC dX7_here_20 (by decide) ?_
    exact gx_iret hC hQ dX7_here_24 ((by unfold mHe; rw [if_pos d_8])) (rfl) rfl
set_option maxHeartbeats 4000000 in
set_option maxRecDepth 20000 in
theorem c_X7_takes (l : Launch) (z : hZt) {n : Nat} {M : hMem} {R : hRef} (gM : gMd n R) {s : Nat → Int32} {L : Nat} (hs : M 221 = s) (hL : M 215 7 = nI L) (hL8 : L ≤ 80) {t : Nat → Int32} {p : Nat} (hp : p ≤ L) (x : Int32) (hx : ¬ x = -1) : hCt l z m_X7_takes [.ref (z.1 + 215), .int x] n (pMm M t p) R n (some (.int (b2 (mTk s L p x)))) (pMm M t (p + bN (mTk s L p x))) R := by
  refine hs_start [some (.ref (z.1 + 215)), some (.int x), none] (by decide +kernel) rfl (by intro u hu; simp at hu; rcases hu with rfl | rfl <;> first | rfl | exact isR_cat kv_isR | exact isR_cat aref_isR) (Nat.le_of_ble_eq_true rfl) (Nat.le_refl _) (fun X hlX hN hC hQ => ?_)
  dsimp only at hC hQ
  refine gx_aload_n (i := 0) hC dX7_takes_0 rfl rfl (by first | exact Or.inr ⟨_, rfl⟩ | exact Or.inl rfl | exact kv_isR | exact aref_isR) ?_
  refine gx_callV1 hC dX7_takes_1 (c_X7_here _ _ gM hs hL hL8 (by omega)) kY_X7_here kV_X7_here ml_X7_157 (by first | exact gM.at215 | exact gM.at216 | exact gM.at217 | exact gM.at218 | exact gM.at219 | exact gM.at220 | exact gM.at221 | exact gM.at222 | exact gM.at223 | exact gM.at224 | exact gM.at225) rfl (by decide) rfl rfl rfl (by first | exact Nat.le_of_ble_eq_true rfl | (simp [Value.category, isR_cat kv_isR, isR_cat aref_isR]; done)) (Nat.le_refl _) (Nat.le_refl _) ?_
  refine gx_iload_n (i := 1) hC dX7_takes_4 rfl rfl ?_
  refine gx_icmp_ne (tgt := 12) hC dX7_takes_5 (by decide) (fun c_5 => ?_) (fun c_5 => ?_)
  · refine gx_iconst (v := 0) hC dX7_takes_12 ic_0 ?_
    refine gx_istore_n (i := 2) (L' := [_, _, _]) hC dX7_takes_13 rfl (Nat.le_of_ble_eq_true rfl) rfl (fun u h9 => by first | exact Or.inl rfl | (cases h9; done) | (right; cases h9; first | rfl | exact isR_cat aref_isR | exact isR_cat kv_isR)) ?_
    refine gx_aload_n (i := 0) hC dX7_takes_14 rfl rfl (by first | exact Or.inr ⟨_, rfl⟩ | exact Or.inl rfl | exact kv_isR | exact aref_isR) ?_
    refine gx_dup hC dX7_takes_15 (by first | rfl | exact isR_cat kv_isR | exact isR_cat aref_isR) ?_
    refine gx_getI hC dX7_takes_16 fl_X7_154 (by first | exact gM.at215 | exact gM.at216 | exact gM.at217 | exact gM.at218 | exact gM.at219 | exact gM.at220 | exact gM.at221 | exact gM.at222 | exact gM.at223 | exact gM.at224 | exact gM.at225) (by decide) (pMm_8) ?_
    refine gx_iload_n (i := 2) hC dX7_takes_19 rfl rfl ?_
    refine gx_if_eq (tgt := 27) hC dX7_takes_20 (by decide) (fun c_20 => ?_) (fun c_20 => ?_)
    · refine gx_iconst (v := nI 0) hC dX7_takes_27 ic_0n ?_
      refine gx_iadd hC dX7_takes_28 ?_
      rw [nI_add]
      refine gx_putI hC dX7_takes_29 fl_X7_154 (by first | exact gM.at215 | exact gM.at216 | exact gM.at217 | exact gM.at218 | exact gM.at219 | exact gM.at220 | exact gM.at221 | exact gM.at222 | exact gM.at223 | exact gM.at224 | exact gM.at225) fn_6_8 rfl (pMm_p) ?_
      refine gx_iload_n (i := 2) hC dX7_takes_32 rfl rfl ?_
      exact gx_zret hC hQ dX7_takes_33 (by first | exact Or.inl rfl | exact Or.inr rfl) ((by unfold mTk; rw [decide_eq_false c_5]; rfl)) ((by unfold mTk; rw [decide_eq_false c_5]; rfl)) rfl
    · exact absurd rfl c_20
  · refine gx_iconst (v := 1) hC dX7_takes_8 ic_1 ?_
    refine gx_goto (tgt := 13) hC dX7_takes_9 (by decide) ?_
    refine gx_istore_n (i := 2) (L' := [_, _, _]) hC dX7_takes_13 rfl (Nat.le_of_ble_eq_true rfl) rfl (fun u h9 => by first | exact Or.inl rfl | (cases h9; done) | (right; cases h9; first | rfl | exact isR_cat aref_isR | exact isR_cat kv_isR)) ?_
    refine gx_aload_n (i := 0) hC dX7_takes_14 rfl rfl (by first | exact Or.inr ⟨_, rfl⟩ | exact Or.inl rfl | exact kv_isR | exact aref_isR) ?_
    refine gx_dup hC dX7_takes_15 (by first | rfl | exact isR_cat kv_isR | exact isR_cat aref_isR) ?_
    refine gx_getI hC dX7_takes_16 fl_X7_154 (by first | exact gM.at215 | exact gM.at216 | exact gM.at217 | exact gM.at218 | exact gM.at219 | exact gM.at220 | exact gM.at221 | exact gM.at222 | exact gM.at223 | exact gM.at224 | exact gM.at225) (by decide) (pMm_8) ?_
    refine gx_iload_n (i := 2) hC dX7_takes_19 rfl rfl ?_
    refine gx_if_eq (tgt := 27) hC dX7_takes_20 (by decide) (fun c_20 => ?_) (fun c_20 => ?_)
    · exact absurd c_20 (by decide)
    · refine gx_iconst (v := nI 1) hC dX7_takes_23 ic_1n ?_
      refine gx_goto (tgt := 28) hC dX7_takes_24 (by decide) ?_
      refine gx_iadd hC dX7_takes_28 ?_
      rw [nI_add]
      refine gx_putI hC dX7_takes_29 fl_X7_154 (by first | exact gM.at215 | exact gM.at216 | exact gM.at217 | exact gM.at218 | exact gM.at219 | exact gM.at220 | exact gM.at221 | exact gM.at222 | exact gM.at223 | exact gM.at224 | exact gM.at225) fn_6_8 rfl (pMm_p) ?_
      refine gx_iload_n (i := 2) hC dX7_takes_32 rfl rfl ?_
      exact gx_zret hC hQ dX7_takes_33 (by first | exact Or.inl rfl | exact Or.inr rfl) ((by unfold mTk; rw [decide_eq_true c_5]; rfl)) ((by unfold mTk; rw [decide_eq_true c_5]; rfl)) rfl
set_option maxHeartbeats 4000000 in
set_option maxRecDepth 20000 in
theorem c_X7_digit (l : Launch) (z : hZt) {n : Nat} {M : hMem} {R : hRef} (gM : gMd n R) {s : Nat → Int32} {L : Nat} (hs : M 221 = s) (hL : M 215 7 = nI L) (hL8 : L ≤ 80) {t : Nat → Int32} {p : Nat} (hp : p ≤ L) : hCt l z m_X7_digit [.ref (z.1 + 215)] n (pMm M t p) R n (some (.int (mDg s L p))) (pMm M t p) R := by
  refine hs_start [some (.ref (z.1 + 215))] (by decide +kernel) rfl (by intro u hu; simp at hu; subst hu <;> first | rfl | exact isR_cat kv_isR | exact isR_cat aref_isR) (Nat.le_of_ble_eq_true rfl) (Nat.le_refl _) (fun X hlX hN hC hQ => ?_)
  dsimp only at hC hQ
  refine gx_aload_n (i := 0) hC dX7_digit_0 rfl rfl (by first | exact Or.inr ⟨_, rfl⟩ | exact Or.inl rfl | exact kv_isR | exact aref_isR) ?_
  refine gx_callV1 hC dX7_digit_1 (c_X7_here _ _ gM hs hL hL8 (by omega)) kY_X7_here kV_X7_here ml_X7_157 (by first | exact gM.at215 | exact gM.at216 | exact gM.at217 | exact gM.at218 | exact gM.at219 | exact gM.at220 | exact gM.at221 | exact gM.at222 | exact gM.at223 | exact gM.at224 | exact gM.at225) rfl (by decide) rfl rfl rfl (by first | exact Nat.le_of_ble_eq_true rfl | (simp [Value.category, isR_cat kv_isR, isR_cat aref_isR]; done)) (Nat.le_refl _) (Nat.le_refl _) ?_
  refine gx_bipush (v := 48) hC dX7_digit_4 bp_48 ?_
  refine gx_bipush (v := 57) hC dX7_digit_6 bp_57 ?_
  refine gx_callS1 hC dX7_digit_8 (c_X7_in _ _ _ _ _) kY_X7_in kS_X7_in ml_X7_41 (by decide) rfl rfl rfl (by first | exact Nat.le_of_ble_eq_true rfl | (simp [Value.category, isR_cat kv_isR, isR_cat aref_isR]; done)) (Nat.le_refl _) (Nat.le_refl _) ?_
  refine gx_ifb_eq (tgt := 24) hC dX7_digit_11 (by decide) (fun c_11 => ?_) (fun c_11 => ?_)
  · refine gx_iconst (v := -1) hC dX7_digit_24 ic_m1 ?_
    exact gx_iret hC hQ dX7_digit_25 ((by unfold mDg; rw [if_neg (by rw [c_11]; decide)])) (rfl) rfl
  · refine gx_aload_n (i := 0) hC dX7_digit_14 rfl rfl (by first | exact Or.inr ⟨_, rfl⟩ | exact Or.inl rfl | exact kv_isR | exact aref_isR) ?_
    refine gx_callV1 hC dX7_digit_15 (c_X7_here _ _ gM hs hL hL8 (by omega)) kY_X7_here kV_X7_here ml_X7_157 (by first | exact gM.at215 | exact gM.at216 | exact gM.at217 | exact gM.at218 | exact gM.at219 | exact gM.at220 | exact gM.at221 | exact gM.at222 | exact gM.at223 | exact gM.at224 | exact gM.at225) rfl (by decide) rfl rfl rfl (by first | exact Nat.le_of_ble_eq_true rfl | (simp [Value.category, isR_cat kv_isR, isR_cat aref_isR]; done)) (Nat.le_refl _) (Nat.le_refl _) ?_
    refine gx_bipush (v := 48) hC dX7_digit_18 bp_48 ?_
    refine gx_isub hC dX7_digit_20 ?_
    refine gx_goto (tgt := 25) hC dX7_digit_21 (by decide) ?_
    exact gx_iret hC hQ dX7_digit_25 ((by unfold mDg; rw [if_pos c_11])) (rfl) rfl
set_option maxHeartbeats 4000000 in
set_option maxRecDepth 20000 in
theorem c_X7_isNumber (l : Launch) (z : hZt) {n : Nat} {M : hMem} {R : hRef} (gM : gMd n R) {s : Nat → Int32} {L : Nat} (hs : M 221 = s) (hL : M 215 7 = nI L) (hL8 : L ≤ 80) {t : Nat → Int32} {p : Nat} (hp : p ≤ L) {kk : Nat} (hk4 : kk < 4) (lo hi : Int32) : hCt l z m_X7_isNumber [.ref (z.1 + 215), .int lo, .int hi, .int (nI kk)] n (pMm M t p) R n (some (.int (b2 (mIs s L p lo hi)))) (pMm M (mIt s L p t kk) (mIp s L p lo hi)) R := by
  refine hs_start [some (.ref (z.1 + 215)), some (.int lo), some (.int hi), some (.int (nI kk)), none, none, none, none] (by decide +kernel) rfl (by intro u hu; simp at hu; rcases hu with rfl | rfl | rfl | rfl <;> first | rfl | exact isR_cat kv_isR | exact isR_cat aref_isR) (Nat.le_of_ble_eq_true rfl) (Nat.le_refl _) (fun X hlX hN hC hQ => ?_)
  dsimp only at hC hQ
  have tail : ∀ (x : Int32) (p2 : Nat) (y6 : Int32) (u7 : Option Value), p2 ≤ L → mNu s L p = some (x, p2) → hG z n X n (pMm M t p2) R 89 [some (.ref (z.1 + 215)), some (.int lo), some (.int hi), some (.int (nI kk)), some (.int (nI p)), some (.int x), some (.int y6), u7] [] := by
    intro x p2 y6 u7 hp2 hq
    refine gx_aload_n (i := 0) hC dX7_isNumber_89 rfl rfl (by first | exact Or.inr ⟨_, rfl⟩ | exact Or.inl rfl | exact kv_isR | exact aref_isR) ?_
    refine gx_getR hC dX7_isNumber_90 fl_X7_29 (by first | exact gM.at215 | exact gM.at216 | exact gM.at217 | exact gM.at218 | exact gM.at219 | exact gM.at220 | exact gM.at221 | exact gM.at222 | exact gM.at223 | exact gM.at224 | exact gM.at225) rfl (gM.r222) (by decide) ?_
    refine gx_iload_n (i := 3) hC dX7_isNumber_93 rfl rfl ?_
    refine gx_iload hC dX7_isNumber_94 rfl ?_
    refine gx_iastM hC dX7_isNumber_96 (by first | exact gM.at215 | exact gM.at216 | exact gM.at217 | exact gM.at218 | exact gM.at219 | exact gM.at220 | exact gM.at221 | exact gM.at222 | exact gM.at223 | exact gM.at224 | exact gM.at225) (by exact vpn (by omega) (by decide)) (pMm_tn (by omega)) ?_
    refine gx_iload hC dX7_isNumber_97 rfl ?_
    refine gx_iload_n (i := 1) hC dX7_isNumber_99 rfl rfl ?_
    refine gx_iload_n (i := 2) hC dX7_isNumber_100 rfl rfl ?_
    refine gx_callS1 hC dX7_isNumber_101 (c_X7_in _ _ _ _ _) kY_X7_in kS_X7_in ml_X7_41 (by decide) rfl rfl rfl (by first | exact Nat.le_of_ble_eq_true rfl | (simp [Value.category, isR_cat kv_isR, isR_cat aref_isR]; done)) (Nat.le_refl _) (Nat.le_refl _) ?_
    refine gx_istore (i := 7) (L' := [_, _, _, _, _, _, _, _]) hC dX7_isNumber_104 (Nat.le_of_ble_eq_true rfl) rfl (fun u h9 => by first | exact Or.inl rfl | (cases h9; done) | (right; cases h9; first | rfl | exact isR_cat aref_isR | exact isR_cat kv_isR)) ?_
    refine gx_aload_n (i := 0) hC dX7_isNumber_106 rfl rfl (by first | exact Or.inr ⟨_, rfl⟩ | exact Or.inl rfl | exact kv_isR | exact aref_isR) ?_
    refine gx_iload hC dX7_isNumber_107 rfl ?_
    refine gx_if_eq (tgt := 119) hC dX7_isNumber_109 (by decide) (fun c_109 => ?_) (fun c_109 => ?_)
    · refine gx_iload hC dX7_isNumber_119 rfl ?_
      refine gx_putI hC dX7_isNumber_121 fl_X7_154 (by first | exact gM.at215 | exact gM.at216 | exact gM.at217 | exact gM.at218 | exact gM.at219 | exact gM.at220 | exact gM.at221 | exact gM.at222 | exact gM.at223 | exact gM.at224 | exact gM.at225) fn_6_8 rfl (pMm_p) ?_
      refine gx_iload hC dX7_isNumber_124 rfl ?_
      exact gx_zret hC hQ dX7_isNumber_126 (by first | exact Or.inl rfl | exact Or.inr rfl | exact b2_bit _) ((by unfold mIs; rw [hq])) ((by unfold mIt mIp; rw [hq]; simp only; rw [if_neg (by rw [b2_0.mp c_109]; decide)])) rfl
    · refine gx_aload_n (i := 0) hC dX7_isNumber_112 rfl rfl (by first | exact Or.inr ⟨_, rfl⟩ | exact Or.inl rfl | exact kv_isR | exact aref_isR) ?_
      refine gx_getI hC dX7_isNumber_113 fl_X7_154 (by first | exact gM.at215 | exact gM.at216 | exact gM.at217 | exact gM.at218 | exact gM.at219 | exact gM.at220 | exact gM.at221 | exact gM.at222 | exact gM.at223 | exact gM.at224 | exact gM.at225) (by decide) (pMm_8) ?_
      refine gx_goto (tgt := 121) hC dX7_isNumber_116 (by decide) ?_
      refine gx_putI hC dX7_isNumber_121 fl_X7_154 (by first | exact gM.at215 | exact gM.at216 | exact gM.at217 | exact gM.at218 | exact gM.at219 | exact gM.at220 | exact gM.at221 | exact gM.at222 | exact gM.at223 | exact gM.at224 | exact gM.at225) fn_6_8 rfl (pMm_p) ?_
      refine gx_iload hC dX7_isNumber_124 rfl ?_
      exact gx_zret hC hQ dX7_isNumber_126 (by first | exact Or.inl rfl | exact Or.inr rfl | exact b2_bit _) ((by unfold mIs; rw [hq])) ((by unfold mIt mIp; rw [hq]; simp only; rw [if_pos (b2_1 c_109)])) rfl
  refine gx_aload_n (i := 0) hC dX7_isNumber_0 rfl rfl (by first | exact Or.inr ⟨_, rfl⟩ | exact Or.inl rfl | exact kv_isR | exact aref_isR) ?_
  refine gx_getI hC dX7_isNumber_1 fl_X7_154 (by first | exact gM.at215 | exact gM.at216 | exact gM.at217 | exact gM.at218 | exact gM.at219 | exact gM.at220 | exact gM.at221 | exact gM.at222 | exact gM.at223 | exact gM.at224 | exact gM.at225) (by decide) (pMm_8) ?_
  refine gx_istore (i := 4) (L' := [_, _, _, _, _, _, _, _]) hC dX7_isNumber_4 (Nat.le_of_ble_eq_true rfl) rfl (fun u h9 => by first | exact Or.inl rfl | (cases h9; done) | (right; cases h9; first | rfl | exact isR_cat aref_isR | exact isR_cat kv_isR)) ?_
  refine gx_aload_n (i := 0) hC dX7_isNumber_6 rfl rfl (by first | exact Or.inr ⟨_, rfl⟩ | exact Or.inl rfl | exact kv_isR | exact aref_isR) ?_
  refine gx_callV1 hC dX7_isNumber_7 (c_X7_digit _ _ gM hs hL hL8 (by omega)) kY_X7_digit kV_X7_digit ml_X7_160 (by first | exact gM.at215 | exact gM.at216 | exact gM.at217 | exact gM.at218 | exact gM.at219 | exact gM.at220 | exact gM.at221 | exact gM.at222 | exact gM.at223 | exact gM.at224 | exact gM.at225) rfl (by decide) rfl rfl rfl (by first | exact Nat.le_of_ble_eq_true rfl | (simp [Value.category, isR_cat kv_isR, isR_cat aref_isR]; done)) (Nat.le_refl _) (Nat.le_refl _) ?_
  refine gx_istore (i := 5) (L' := [_, _, _, _, _, _, _, _]) hC dX7_isNumber_10 (Nat.le_of_ble_eq_true rfl) rfl (fun u h9 => by first | exact Or.inl rfl | (cases h9; done) | (right; cases h9; first | rfl | exact isR_cat aref_isR | exact isR_cat kv_isR)) ?_
  refine gx_iload hC dX7_isNumber_12 rfl ?_
  refine gx_if_ge (tgt := 19) hC dX7_isNumber_14 (by decide) (fun c_14 => ?_) (fun c_14 => ?_)
  · have hp1 := mDg_p (fun e => Int32.not_le.mpr e c_14)
    refine gx_aload_n (i := 0) hC dX7_isNumber_19 rfl rfl (by first | exact Or.inr ⟨_, rfl⟩ | exact Or.inl rfl | exact kv_isR | exact aref_isR) ?_
    refine gx_dup hC dX7_isNumber_20 (by first | rfl | exact isR_cat kv_isR | exact isR_cat aref_isR) ?_
    refine gx_getI hC dX7_isNumber_21 fl_X7_154 (by first | exact gM.at215 | exact gM.at216 | exact gM.at217 | exact gM.at218 | exact gM.at219 | exact gM.at220 | exact gM.at221 | exact gM.at222 | exact gM.at223 | exact gM.at224 | exact gM.at225) (by decide) (pMm_8) ?_
    refine gx_iconst (v := nI 1) hC dX7_isNumber_24 ic_1n ?_
    refine gx_iadd hC dX7_isNumber_25 ?_
    rw [nI_add]
    refine gx_putI hC dX7_isNumber_26 fl_X7_154 (by first | exact gM.at215 | exact gM.at216 | exact gM.at217 | exact gM.at218 | exact gM.at219 | exact gM.at220 | exact gM.at221 | exact gM.at222 | exact gM.at223 | exact gM.at224 | exact gM.at225) fn_6_8 rfl (pMm_p) ?_
    refine gx_iload hC dX7_isNumber_29 rfl ?_
    refine gx_if_ne (tgt := 38) hC dX7_isNumber_31 (by decide) (fun c_31 => ?_) (fun c_31 => ?_)
    · refine gx_iconst (v := 0) hC dX7_isNumber_38 ic_0 ?_
      refine gx_istore (i := 6) (L' := [_, _, _, _, _, _, _, _]) hC dX7_isNumber_39 (Nat.le_of_ble_eq_true rfl) rfl (fun u h9 => by first | exact Or.inl rfl | (cases h9; done) | (right; cases h9; first | rfl | exact isR_cat aref_isR | exact isR_cat kv_isR)) ?_
      have loop_41 : ∀ (k : Nat) (p2 f : Nat) (x : Int32) (u7 : Option Value), f < k → p2 ≤ L → p2 + f = p + 4 → mNu s L p = some (mNl s L f p2 x) → hG z n X n (pMm M t p2) R 41 [some (.ref (z.1 + 215)), some (.int lo), some (.int hi), some (.int (nI kk)), some (.int (nI p)), some (.int x), some (.int 0), u7] [] := by
        intro k
        induction k with
        | zero => intros; omega
        | succ k ih =>
          intro p2 f x u7 hk1 hp3 hf hr
          refine gx_iload hC dX7_isNumber_41 rfl ?_
          refine gx_if_ne (tgt := 89) hC dX7_isNumber_43 (by decide) (fun c_43 => ?_) (fun c_43 => ?_)
          · exact absurd rfl c_43
          · refine gx_aload_n (i := 0) hC dX7_isNumber_46 rfl rfl (by first | exact Or.inr ⟨_, rfl⟩ | exact Or.inl rfl | exact kv_isR | exact aref_isR) ?_
            refine gx_callV1 hC dX7_isNumber_47 (c_X7_digit _ _ gM hs hL hL8 (by omega)) kY_X7_digit kV_X7_digit ml_X7_160 (by first | exact gM.at215 | exact gM.at216 | exact gM.at217 | exact gM.at218 | exact gM.at219 | exact gM.at220 | exact gM.at221 | exact gM.at222 | exact gM.at223 | exact gM.at224 | exact gM.at225) rfl (by decide) rfl rfl rfl (by first | exact Nat.le_of_ble_eq_true rfl | (simp [Value.category, isR_cat kv_isR, isR_cat aref_isR]; done)) (Nat.le_refl _) (Nat.le_refl _) ?_
            refine gx_if_lt (tgt := 89) hC dX7_isNumber_50 (by decide) (fun c_50 => ?_) (fun c_50 => ?_)
            · refine tail x p2 _ _ (by omega) (hr.trans (congrArg some ?_))
              rcases f with _ | f
              · rfl
              · rw [mNl, if_pos c_50]
            · have hp2 := mDg_p c_50
              refine gx_aload_n (i := 0) hC dX7_isNumber_53 rfl rfl (by first | exact Or.inr ⟨_, rfl⟩ | exact Or.inl rfl | exact kv_isR | exact aref_isR) ?_
              refine gx_getI hC dX7_isNumber_54 fl_X7_154 (by first | exact gM.at215 | exact gM.at216 | exact gM.at217 | exact gM.at218 | exact gM.at219 | exact gM.at220 | exact gM.at221 | exact gM.at222 | exact gM.at223 | exact gM.at224 | exact gM.at225) (by decide) (pMm_8) ?_
              refine gx_iload hC dX7_isNumber_57 rfl ?_
              refine gx_iconst (v := nI 4) hC dX7_isNumber_59 ic_4n ?_
              refine gx_iadd hC dX7_isNumber_60 ?_
              rw [nI_add]
              refine gx_icmp_ge (tgt := 89) hC dX7_isNumber_61 (by decide) (fun c_61 => ?_) (fun c_61 => ?_)
              · have d_61 := cle (by omega) (by omega) c_61
                refine tail x p2 _ _ (by omega) (hr.trans (congrArg some ?_))
                obtain rfl : f = 0 := by omega
                rfl
              · have d_61 := cnle (by omega) (by omega) c_61
                refine gx_bipush (v := 10) hC dX7_isNumber_64 bp_10 ?_
                refine gx_iload hC dX7_isNumber_66 rfl ?_
                refine gx_imul hC dX7_isNumber_68 ?_
                refine gx_aload_n (i := 0) hC dX7_isNumber_69 rfl rfl (by first | exact Or.inr ⟨_, rfl⟩ | exact Or.inl rfl | exact kv_isR | exact aref_isR) ?_
                refine gx_callV1 hC dX7_isNumber_70 (c_X7_digit _ _ gM hs hL hL8 (by omega)) kY_X7_digit kV_X7_digit ml_X7_160 (by first | exact gM.at215 | exact gM.at216 | exact gM.at217 | exact gM.at218 | exact gM.at219 | exact gM.at220 | exact gM.at221 | exact gM.at222 | exact gM.at223 | exact gM.at224 | exact gM.at225) rfl (by decide) rfl rfl rfl (by first | exact Nat.le_of_ble_eq_true rfl | (simp [Value.category, isR_cat kv_isR, isR_cat aref_isR]; done)) (Nat.le_refl _) (Nat.le_refl _) ?_
                refine gx_iadd hC dX7_isNumber_73 ?_
                refine gx_istore (i := 5) (L' := [_, _, _, _, _, _, _, _]) hC dX7_isNumber_74 (Nat.le_of_ble_eq_true rfl) rfl (fun u h9 => by first | exact Or.inl rfl | (cases h9; done) | (right; cases h9; first | rfl | exact isR_cat aref_isR | exact isR_cat kv_isR)) ?_
                refine gx_aload_n (i := 0) hC dX7_isNumber_76 rfl rfl (by first | exact Or.inr ⟨_, rfl⟩ | exact Or.inl rfl | exact kv_isR | exact aref_isR) ?_
                refine gx_dup hC dX7_isNumber_77 (by first | rfl | exact isR_cat kv_isR | exact isR_cat aref_isR) ?_
                refine gx_getI hC dX7_isNumber_78 fl_X7_154 (by first | exact gM.at215 | exact gM.at216 | exact gM.at217 | exact gM.at218 | exact gM.at219 | exact gM.at220 | exact gM.at221 | exact gM.at222 | exact gM.at223 | exact gM.at224 | exact gM.at225) (by decide) (pMm_8) ?_
                refine gx_iconst (v := nI 1) hC dX7_isNumber_81 ic_1n ?_
                refine gx_iadd hC dX7_isNumber_82 ?_
                rw [nI_add]
                refine gx_putI hC dX7_isNumber_83 fl_X7_154 (by first | exact gM.at215 | exact gM.at216 | exact gM.at217 | exact gM.at218 | exact gM.at219 | exact gM.at220 | exact gM.at221 | exact gM.at222 | exact gM.at223 | exact gM.at224 | exact gM.at225) fn_6_8 rfl (pMm_p) ?_
                refine gx_goto (tgt := 41) hC dX7_isNumber_86 (by decide) ?_
                obtain ⟨f, rfl⟩ : ∃ f1, f = f1 + 1 := ⟨f - 1, by omega⟩
                rw [mNl, if_neg c_50] at hr
                exact ih (p2 + 1) f (10 * x + mDg s L p2) u7 (by omega) (by omega) (by omega) hr
      exact loop_41 4 (p + 1) 3 _ none (by omega) (by omega) (by omega) (by unfold mNu; rw [if_neg (fun e => Int32.not_le.mpr e c_14), if_neg c_31])
    · refine gx_iconst (v := 1) hC dX7_isNumber_34 ic_1 ?_
      refine gx_goto (tgt := 39) hC dX7_isNumber_35 (by decide) ?_
      refine gx_istore (i := 6) (L' := [_, _, _, _, _, _, _, _]) hC dX7_isNumber_39 (Nat.le_of_ble_eq_true rfl) rfl (fun u h9 => by first | exact Or.inl rfl | (cases h9; done) | (right; cases h9; first | rfl | exact isR_cat aref_isR | exact isR_cat kv_isR)) ?_
      refine gx_iload hC dX7_isNumber_41 rfl ?_
      refine gx_if_ne (tgt := 89) hC dX7_isNumber_43 (by decide) (fun c_43 => ?_) (fun c_43 => ?_)
      · exact tail _ (p + 1) _ _ (by omega) (by unfold mNu; rw [if_neg (fun e => Int32.not_le.mpr e c_14), if_pos c_31])
      · exact absurd c_43 (by decide)
  · refine gx_iconst (v := 0) hC dX7_isNumber_17 ic_0 ?_
    exact gx_zret hC hQ dX7_isNumber_18 (by first | exact Or.inl rfl | exact Or.inr rfl | exact b2_bit _) ((by unfold mIs mNu; rw [if_pos (Int32.not_le.mp c_14)]; rfl)) ((by unfold mIt mIp mNu; rw [if_pos (Int32.not_le.mp c_14)])) rfl
