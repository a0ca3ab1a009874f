/-! minutes; forecasts -/
theorem Rel.mn {f : hMem} {v : Nat → Int32} {lv c : Nat} (h : Rel f v lv c) (k : Nat) : (sMin f lv k).1 = mGc v lv c k ∧ Rel (sMin f lv k).2 (mGo v lv c k) lv c := by
  induction k with
  | zero => exact ⟨rfl, h⟩
  | succ k ih =>
    have h1 := ih.2.ps
    refine ⟨?_, h1.2⟩
    rw [mGc]
    have hc := h.sw.c20
    cases hq : mPa (mGo v lv c k) c with
    | none => rw [sMin_eq (h1.1.trans (by rw [hq]; rfl)), ih.1]; exact (Int32.add_zero _).symm
    | some j =>
      have hj := mPa_lt hq
      rw [sMin_ne (fun e => by
        have := oI_6 (h1.1.symm.trans e) (fun i hi => by have := mPa_lt hi; omega)
        rw [hq] at this; cases this), ih.1]
      rfl
def cntN (v : Nat → Int32) (x : Int32) : Nat → Nat
  | 0 => 0
  | j + 1 => if v (14 + 7 * j + 2) = x then cntN v x j + 1 else cntN v x j
theorem cntN_le {v : Nat → Int32} {x : Int32} {n : Nat} : cntN v x n ≤ n := by
  induction n with
  | zero => exact Nat.le_refl _
  | succ n ih => rw [cntN]; split <;> omega
theorem cntN_p {v : Nat → Int32} {x : Int32} {n j : Nat} (hj : j < n) (h : v (14 + 7 * j + 2) = x) : 0 < cntN v x n := by
  induction n with
  | zero => exact absurd hj (Nat.not_lt_zero _)
  | succ n ih =>
    rw [cntN]
    by_cases e : j = n
    · subst e; rw [if_pos h]; omega
    · have := ih (by omega)
      split <;> omega
theorem mCnt_n {v : Nat → Int32} {x : Int32} {n : Nat} : mCnt v x n = nI (cntN v x n) := by
  induction n with
  | zero => rfl
  | succ n ih =>
    rw [mCnt, cntN]
    split
    · rw [ih, nI_1]
    · rw [ih, Int32.add_zero]
theorem Rel.cn {f : hMem} {v : Nat → Int32} {lv c n : Nat} {x : Int32} (h : Rel f v lv c) (hn : n ≤ c) : sCnt f x n = mCnt v x n := by
  induction n with
  | zero => rfl
  | succ n ih =>
    rw [sCnt, mCnt, ih (by omega), (h.ra (show n < c by omega)).st]
    split
    · rfl
    · exact (Int32.add_zero _).symm
/-- the class's minutes, one after another -/
def It (lv : Nat) (f : hMem) : Nat → hMem
  | 0 => f
  | k + 1 => (sPass (It lv f k) lv).2
theorem It_s {lv : Nat} {f : hMem} (k : Nat) : It lv (sPass f lv).2 k = It lv f (k + 1) := by
  induction k with
  | zero => rfl
  | succ k ih => rw [It, ih]; rfl
theorem Rel.it {f : hMem} {v : Nat → Int32} {lv c : Nat} (h : Rel f v lv c) (k : Nat) : Rel (It lv f k) (mGo v lv c k) lv c := by
  induction k with
  | zero => exact h
  | succ k ih => exact ih.ps.2
theorem fcS_it {lv c : Nat} : ∀ (k : Nat) (f : hMem), ∃ m, m ≤ k ∧ fcS lv c k f = It lv f m ∧ (m = k ∨ bMay (It lv f m) c = false) ∧ ∀ i, i < m → bMay (It lv f i) c = true
  | 0, f => ⟨0, Nat.le_refl _, rfl, Or.inl rfl, fun i hi => absurd hi (Nat.not_lt_zero _)⟩
  | k + 1, f => by
    cases hb : bMay f c with
    | false => exact ⟨0, Nat.zero_le _, fcS_f hb, Or.inr hb, fun i hi => absurd hi (Nat.not_lt_zero _)⟩
    | true =>
      obtain ⟨m, h1, h2, h3, h4⟩ := fcS_it k (sPass f lv).2
      rw [It_s] at h2 h3
      refine ⟨m + 1, by omega, (fcS_t hb).trans h2, h3.imp (fun e => by omega) id, fun i hi => ?_⟩
      cases i with
      | zero => exact hb
      | succ i => rw [← It_s]; exact h4 i (by omega)
theorem mKs_o {v : Nat → Int32} {c i : Nat} (h8 : i ≠ 8) (h : ∀ j, i ≠ 14 + 7 * j + 3 ∧ i ≠ 14 + 7 * j + 5) (n : Nat) : mKs v c n i = v i := by
  induction n with
  | zero => rfl
  | succ n ih =>
    show mK1 (mKs v c n) c n i = v i
    unfold mK1
    cases hm : mOn (mKs v c n) (nI (n + 1)) c with
    | none => exact ih
    | some b =>
      simp only
      by_cases hc : mOv (mKs v c n) b = true ∧ mOn (mKs v c n) (nI n) c = none ∧ (mKs v c n 6 = 1 ∨ mKs v c n (14 + 7 * b + 5) = 1)
      · rw [if_pos hc, upd_n h8, upd_n (h _).2, upd_n (h _).1, ih]
      · rw [if_neg hc, ih]
theorem mB2_e {v : Nat → Int32} {c : Nat} : mB2 v c = upd (mBu v c) 4 (mBu v c 4 - (if 0 < mBu v c 4 then 1 else 0)) := rfl
theorem mV3_s {v : Nat → Int32} {j : Nat} : mV3 v (some j) = upd (mLeave v j 1) 4 (kWake (mLeave v j 1 (14 + 7 * j))) := rfl
theorem mLeave_1 {v : Nat → Int32} {j : Nat} : mLeave v j 1 = upd (upd (upd v (14 + 7 * j + 2) 1) (14 + 7 * j + 6) (v 0)) 11 (upd (upd v (14 + 7 * j + 2) 1) (14 + 7 * j + 6) (v 0) 11 + upd (upd v (14 + 7 * j + 2) 1) (14 + 7 * j + 6) (v 0) (14 + 7 * j + 1)) := by
  unfold mLeave
  exact if_pos rfl
theorem mPs_e {v : Nat → Int32} {lv c : Nat} : mPs v lv c = upd (mKs (mV3 (mB2 v c) (mPa v c)) c (lv - 1)) 0 (mKs (mV3 (mB2 v c) (mPa v c)) c (lv - 1) 0 + 1) := rfl
theorem mBu_lo {v : Nat → Int32} {c k : Nat} (h : k < 14) (h10 : k ≠ 10) (h12 : k ≠ 12) : mBu v c k = v k :=
  ((mDs_at c).1 k h h12).trans ((mBs_at c).1 k h h10)
theorem mPs_0 {v : Nat → Int32} {lv c : Nat} : mPs v lv c 0 = v 0 + 1 := by
  have e : mKs (mV3 (mB2 v c) (mPa v c)) c (lv - 1) 0 = v 0 := by
    rw [mKs_o (by decide) (fun j => by omega)]
    have e2 : mB2 v c 0 = v 0 := by
      rw [mB2_e, upd_n (by decide), mBu_lo (by decide) (by decide) (by decide)]
    cases mPa v c with
    | none => exact e2
    | some b => rw [mV3_s, upd_n (by decide), mLeave_1, upd_n (by decide), upd_n (by omega), upd_n (by omega), e2]
  rw [mPs_e, upd_s, e]
theorem mB2_5 {v : Nat → Int32} {c : Nat} : mB2 v c 5 = v 5 := by
  rw [mB2_e, upd_n (by decide), mBu_lo (by decide) (by decide) (by decide)]
theorem mPs_5 {v : Nat → Int32} {lv c : Nat} : mPs v lv c 5 = v 5 := by
  rw [mPs_e, upd_n (by decide), mKs_o (by decide) (fun j => by omega)]
  cases mPa v c with
  | none => exact mB2_5
  | some b => rw [mV3_s, upd_n (by decide), mLeave_1, upd_n (by decide), upd_n (by omega), upd_n (by omega), mB2_5]
theorem mB2_j {v : Nat → Int32} {c j k : Nat} (h : ¬ v (14 + 7 * j + 2) = 0) (hk : k < 7) : mB2 v c (14 + 7 * j + k) = v (14 + 7 * j + k) := by
  have e2 : mBs v c (14 + 7 * j + 2) = v (14 + 7 * j + 2) := by rw [(mBs_at c).2.2 j 2 (by decide), if_neg (by omega), if_neg (by omega)]
  have hd : ¬ dD (mBs v c) j = true := fun q => h (e2.symm.trans (dD_0 q))
  rw [mB2_e, upd_n (by omega)]
  show mDs (mBs v c) c (14 + 7 * j + k) = _
  rw [(mDs_at c).2.2 j k hk, if_neg (fun q => hd q.1.2), if_neg (fun q => hd q.1.2), (mBs_at c).2.2 j k hk, if_neg (fun q => h q.2.1), if_neg (fun q => h q.2.1)]
theorem mPa_0 {f : hMem} {v : Nat → Int32} {lv c j : Nat} (h : Rel f v lv c) (hd : mPa v c = some j) : j < c ∧ mB2 v c (14 + 7 * j + 2) = 0 ∧ v 5 = 1 := by
  have h1 : Rel (sWait (dv (bf f lv) lv)) (mB2 v c) lv c := h.bs.ds.wait
  unfold mPa mPq at hd
  split at hd
  · next hc => exact ⟨mLd_lt hd, (mLd_0 h1.wv hd).2, mB2_5.symm.trans hc.1⟩
  · cases hd
/-- what does not hold stays as it is -/
theorem mPs_j {f : hMem} {v : Nat → Int32} {lv c j k : Nat} (h : Rel f v lv c) (h0 : ¬ v (14 + 7 * j + 2) = 0) (hk : k < 7) (h35 : k ≠ 3 ∧ k ≠ 5) : mPs v lv c (14 + 7 * j + k) = v (14 + 7 * j + k) := by
  rw [mPs_e, upd_n (by omega), mKs_o (by omega) (fun q => by omega)]
  cases hq : mPa v c with
  | none => exact mB2_j h0 hk
  | some b =>
    have hb := mPa_0 h hq
    have hne : b ≠ j := fun e => by subst e; exact h0 ((mB2_j h0 (show 2 < 7 by decide)).symm.trans hb.2.1)
    rw [mV3_s, upd_n (by omega), mLeave_1, upd_n (by omega), upd_n (by omega), upd_n (by omega), mB2_j h0 hk]
/-- what lands notes the time; the runway is open -/
theorem mPs_l {f : hMem} {v : Nat → Int32} {lv c j : Nat} (h : Rel f v lv c) (hj : j < c) (h0 : v (14 + 7 * j + 2) = 0) (h1 : mPs v lv c (14 + 7 * j + 2) = 1) : mPs v lv c (14 + 7 * j + 6) = v 0 ∧ v 5 = 1 := by
  have e : ∀ k, k < 7 → k ≠ 3 ∧ k ≠ 5 → mPs v lv c (14 + 7 * j + k) = mV3 (mB2 v c) (mPa v c) (14 + 7 * j + k) := fun k hk h35 => by
    rw [mPs_e, upd_n (by omega), mKs_o (by omega) (fun q => by omega)]
  have e2 : mB2 v c (14 + 7 * j + 2) = 0 ∨ mB2 v c (14 + 7 * j + 2) = 2 := by
    have e3 : mBs v c (14 + 7 * j + 2) = v (14 + 7 * j + 2) := by rw [(mBs_at c).2.2 j 2 (by decide), if_neg (by omega), if_neg (by omega)]
    rw [mB2_e, upd_n (by omega)]
    show mDs (mBs v c) c (14 + 7 * j + 2) = 0 ∨ mDs (mBs v c) c (14 + 7 * j + 2) = 2
    rw [(mDs_at c).2.2 j 2 (by decide), e3, h0]
    split
    · exact Or.inr rfl
    · rw [if_neg (by omega)]; exact Or.inl rfl
  rw [e 2 (by decide) (by decide)] at h1
  rw [e 6 (by decide) (by decide)]
  cases hq : mPa v c with
  | none =>
    rw [hq] at h1
    have h1 : mB2 v c (14 + 7 * j + 2) = 1 := h1
    rcases e2 with e2 | e2 <;> (rw [e2] at h1; exact absurd h1 (by decide))
  | some b =>
    have hb := mPa_0 h hq
    rw [hq] at h1
    by_cases eb : b = j
    · subst eb
      refine ⟨?_, hb.2.2⟩
      rw [mV3_s, upd_n (by omega), mLeave_1, upd_n (by omega), upd_s, mB2_e, upd_n (by decide), mBu_lo (by decide) (by decide) (by decide)]
    · have h1 : upd (mLeave (mB2 v c) b 1) 4 (kWake (mLeave (mB2 v c) b 1 (14 + 7 * b))) (14 + 7 * j + 2) = 1 := h1
      rw [upd_n (by omega)] at h1
      rw [mLeave_1, upd_n (by omega), upd_n (by omega), upd_n (by omega)] at h1
      rcases e2 with e2 | e2 <;> (rw [e2] at h1; exact absurd h1 (by decide))
