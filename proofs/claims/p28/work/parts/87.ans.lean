/-! what the class answers, by the row -/
section ANS
variable {l : Launch} {z : hZt} {M : hMem} {R : hRef} {v : gRow} {lv c q : Nat} {H : Nat → gRow} {K : Nat → Option gRow} {j : Nat}
theorem tt0 (h : PI M R v lv c q H K) : hCt l z m_X6_tell [.ref (z.1 + 0), .int (nI 0)] 215 M R 215 (some (.int (v 0))) M R := t_tell h (w := 0) (by decide)
theorem tt1 (h : PI M R v lv c q H K) : hCt l z m_X6_tell [.ref (z.1 + 0), .int (nI 1)] 215 M R 215 (some (.int (nI lv))) M R := by
  have k := t_tell h (l := l) (z := z) (w := 1) (by decide)
  rw [show mTl v q c 1 = nI lv from h.rl.wv.mw.lv] at k
  exact k
theorem tt2 (h : PI M R v lv c q H K) : hCt l z m_X6_tell [.ref (z.1 + 0), .int (nI 2)] 215 M R 215 (some (.int (v 2))) M R := t_tell h (w := 2) (by decide)
theorem tt3 (h : PI M R v lv c q H K) : hCt l z m_X6_tell [.ref (z.1 + 0), .int (nI 3)] 215 M R 215 (some (.int (nI c))) M R := by
  have k := t_tell h (l := l) (z := z) (w := 3) (by decide)
  rw [show mTl v q c 3 = nI c from h.rl.wv.mw.ct] at k
  exact k
theorem tt4 (h : PI M R v lv c q H K) : hCt l z m_X6_tell [.ref (z.1 + 0), .int (nI 4)] 215 M R 215 (some (.int (mCnt v 0 c))) M R := by
  have k := t_tell h (l := l) (z := z) (w := 4) (by decide)
  rw [show mTl v q c 4 = mCnt v (nI 4 - 4) c from rfl, show nI 4 - 4 = 0 by decide] at k
  exact k
theorem tt5 (h : PI M R v lv c q H K) : hCt l z m_X6_tell [.ref (z.1 + 0), .int (nI 5)] 215 M R 215 (some (.int (mCnt v 1 c))) M R := by
  have k := t_tell h (l := l) (z := z) (w := 5) (by decide)
  rw [show mTl v q c 5 = mCnt v (nI 5 - 4) c from rfl, show nI 5 - 4 = 1 by decide] at k
  exact k
theorem tt6 (h : PI M R v lv c q H K) : hCt l z m_X6_tell [.ref (z.1 + 0), .int (nI 6)] 215 M R 215 (some (.int (mCnt v 2 c))) M R := by
  have k := t_tell h (l := l) (z := z) (w := 6) (by decide)
  rw [show mTl v q c 6 = mCnt v (nI 6 - 4) c from rfl, show nI 6 - 4 = 2 by decide] at k
  exact k
theorem tt7 (h : PI M R v lv c q H K) : hCt l z m_X6_tell [.ref (z.1 + 0), .int (nI 7)] 215 M R 215 (some (.int (v 8))) M R := t_tell h (w := 7) (by decide)
theorem tt8 (h : PI M R v lv c q H K) : hCt l z m_X6_tell [.ref (z.1 + 0), .int (nI 8)] 215 M R 215 (some (.int (v 4))) M R := t_tell h (w := 8) (by decide)
theorem tt12 (h : PI M R v lv c q H K) : hCt l z m_X6_tell [.ref (z.1 + 0), .int (nI 12)] 215 M R 215 (some (.int (v 9))) M R := t_tell h (w := 12) (by decide)
theorem tt13 (h : PI M R v lv c q H K) : hCt l z m_X6_tell [.ref (z.1 + 0), .int (nI 13)] 215 M R 215 (some (.int (v 10))) M R := t_tell h (w := 13) (by decide)
theorem tt14 (h : PI M R v lv c q H K) : hCt l z m_X6_tell [.ref (z.1 + 0), .int (nI 14)] 215 M R 215 (some (.int (v 11))) M R := t_tell h (w := 14) (by decide)
theorem tt15 (h : PI M R v lv c q H K) : hCt l z m_X6_tell [.ref (z.1 + 0), .int (nI 15)] 215 M R 215 (some (.int (v 12))) M R := t_tell h (w := 15) (by decide)
theorem tt16 (h : PI M R v lv c q H K) : hCt l z m_X6_tell [.ref (z.1 + 0), .int (nI 16)] 215 M R 215 (some (.int (v 13))) M R := t_tell h (w := 16) (by decide)
theorem tt17 (h : PI M R v lv c q H K) : hCt l z m_X6_tell [.ref (z.1 + 0), .int (nI 17)] 215 M R 215 (some (.int (nI q))) M R := t_tell h (w := 17) (by decide)
theorem ta1 (h : PI M R v lv c q H K) (hj : j < c) : hCt l z m_X6_aircraft [.ref (z.1 + 0), .int (nI j), .int (nI 1)] 215 M R 215 (some (.int (v (14 + 7 * j + 1)))) M R := t_air h hj (w := 1) (by decide)
theorem ta2 (h : PI M R v lv c q H K) (hj : j < c) : hCt l z m_X6_aircraft [.ref (z.1 + 0), .int (nI j), .int (nI 2)] 215 M R 215 (some (.int (v (14 + 7 * j + 2)))) M R := t_air h hj (w := 2) (by decide)
theorem ta_h (h : PI M R v lv c q H K) (hj : j < c) (h0 : v (14 + 7 * j + 2) = 0) {w : Nat} (h3 : 3 ≤ w) (h5 : w ≤ 5) : hCt l z m_X6_aircraft [.ref (z.1 + 0), .int (nI j), .int (nI w)] 215 M R 215 (some (.int (v (14 + 7 * j + w)))) M R := by
  have k := t_air h hj (l := l) (z := z) (w := w) (by omega)
  rw [show mCt v j w = v (14 + 7 * j + w) from by unfold mCt; rw [if_neg (by omega), if_neg (by omega), if_neg (by omega), if_pos h0]] at k
  exact k
theorem ta_n (h : PI M R v lv c q H K) (hj : j < c) (h0 : ¬ v (14 + 7 * j + 2) = 0) {w : Nat} (h3 : 3 ≤ w) (h5 : w ≤ 5) : hCt l z m_X6_aircraft [.ref (z.1 + 0), .int (nI j), .int (nI w)] 215 M R 215 (some (.int (-6))) M R := by
  have k := t_air h hj (l := l) (z := z) (w := w) (by omega)
  rw [show mCt v j w = -6 from by unfold mCt; rw [if_neg (by omega), if_neg (by omega), if_neg (by omega), if_neg h0]] at k
  exact k
theorem ta6 (h : PI M R v lv c q H K) (hj : j < c) : hCt l z m_X6_aircraft [.ref (z.1 + 0), .int (nI j), .int (nI 6)] 215 M R 215 (some (.int (b2 (mSh v j)))) M R := t_air h hj (w := 6) (by decide)
theorem ta7h (h : PI M R v lv c q H K) (hj : j < c) (h0 : v (14 + 7 * j + 2) = 0) : hCt l z m_X6_aircraft [.ref (z.1 + 0), .int (nI j), .int (nI 7)] 215 M R 215 (some (.int (-6))) M R := by
  have k := t_air h hj (l := l) (z := z) (w := 7) (by decide)
  rw [show mCt v j 7 = -6 from if_pos h0] at k
  exact k
theorem ta7n (h : PI M R v lv c q H K) (hj : j < c) (h0 : ¬ v (14 + 7 * j + 2) = 0) : hCt l z m_X6_aircraft [.ref (z.1 + 0), .int (nI j), .int (nI 7)] 215 M R 215 (some (.int (v (14 + 7 * j + 6)))) M R := by
  have k := t_air h hj (l := l) (z := z) (w := 7) (by decide)
  rw [show mCt v j 7 = v (14 + 7 * j + 6) from if_neg h0] at k
  exact k
theorem tle (h : PI M R v lv c q H K) {i : Nat} (hi : i < lv) : hCt l z m_X6_level [.ref (z.1 + 0), .int (nI i)] 215 M R 215 (some (.int (oI (mOn v (nI i) c)))) M R := by
  have k := t_level h (l := l) (z := z) (nI i)
  rw [show mLe v c (nI i) = oI (mOn v (nI i) c) from if_pos ((mLv_n h.rl.wv.mw).mpr ⟨i, hi, rfl⟩)] at k
  exact k
theorem tleh (h : PI M R v lv c q H K) (hj : j < c) (h0 : v (14 + 7 * j + 2) = 0) : hCt l z m_X6_level [.ref (z.1 + 0), .int (v (14 + 7 * j + 3))] 215 M R 215 (some (.int (nI j))) M R := by
  obtain ⟨i, hi, e⟩ := (h.rl.wv.ac hj).le h0
  have k := tle h (l := l) (z := z) hi
  rw [← e, mOn_is h.rl.wv hj h0] at k
  exact k
theorem tlex (h : PI M R v lv c q H K) : hCt l z m_X6_level [.ref (z.1 + 0), .int (nI lv)] 215 M R 215 (some (.int (-1))) M R := by
  have l16 := h.sw.l16
  have k := t_level h (l := l) (z := z) (nI lv)
  rw [show mLe v c (nI lv) = -1 from if_neg (fun e => by
    obtain ⟨i, hi, e2⟩ := (mLv_n h.rl.wv.mw).mp e
    have := nI_jj (by omega) (by omega) e2
    omega)] at k
  exact k
theorem tw_n (h : PI M R v lv c q H K) (hj : j < c) (h0 : ¬ v (14 + 7 * j + 2) = 0) : hCt l z m_X6_why [.ref (z.1 + 0), .int (nI j)] 215 M R 215 (some (.int 1)) M R := by
  have k := t_why h (l := l) (z := z) hj
  rw [show mWy v c j = 1 from if_pos h0] at k
  exact k
theorem te_n (h : PI M R v lv c q H K) (hj : j < c) (h0 : ¬ v (14 + 7 * j + 2) = 0) : hCt l z m_X6_endurance [.ref (z.1 + 0), .int (nI j)] 215 M R 215 (some (.int (-3))) M R := by
  have k := t_endu h (l := l) (z := z) hj
  rw [show mEu v j = -3 from if_pos h0] at k
  exact k
/-- it is short, and its endurance is 0; or neither -/
theorem kRes_n {x : Int32} (h : hk x) : ∃ r, r ≤ 220 ∧ kRes x = nI r := by
  rcases h with rfl | rfl | rfl
  · exact ⟨40, by decide, by decide⟩
  · exact ⟨100, by decide, by decide⟩
  · exact ⟨220, by decide, by decide⟩
theorem mEu_s (h : WV v lv c) (hj : j < c) (h0 : v (14 + 7 * j + 2) = 0) : mSh v j = true ↔ mEu v j = 0 := by
  obtain ⟨u, hu, eu⟩ := (h.ac hj).fu
  obtain ⟨r, hr, er⟩ := kRes_n (h.mw.kd hj)
  obtain ⟨b, b1, b18, eb⟩ := mBurn_n h hj h0
  have e0 : mSh v j = true ↔ u ≤ r := by
    unfold mSh
    rw [decide_eq_true_iff, eu, er]
    exact nI_leI (by omega) (by omega)
  rw [e0]
  unfold mEu
  rw [if_neg (fun q => q h0), eu, er, eb]
  by_cases hs : u ≤ r
  · have e1 : nI u - nI r ≤ 0 := by
      have i1 : (nI u).toInt = u := nI_toInt (by omega)
      have i2 : (nI r).toInt = r := nI_toInt (by omega)
      rw [Int32.le_iff_toInt_le, Int32.toInt_sub, i1, i2, Int32.toInt_zero, Int.bmod_eq_of_le (by omega) (by omega)]
      omega
    rw [if_pos e1]
    exact ⟨fun _ => rfl, fun _ => hs⟩
  · rw [nI_sub (show r ≤ u by omega), if_neg (nI_nle (by omega) (by omega)), nI_add]
    have e2 : nI (u - r + b) - 1 = nI (u - r + b - 1) := nI_sub (b := 1) (by omega)
    rw [e2, pk_div (by omega) (by omega) (by omega)]
    refine ⟨fun q => absurd q hs, fun q => ?_⟩
    have hd : 1 ≤ (u - r + b - 1) / b := (Nat.le_div_iff_mul_le (by omega)).mpr (by omega)
    have hd2 : (u - r + b - 1) / b ≤ u - r + b - 1 := Nat.div_le_self _ _
    exact absurd q (nI_ne0 (by omega) (by omega))
theorem te_s (h : PI M R v lv c q H K) (hj : j < c) (h0 : v (14 + 7 * j + 2) = 0) (hs : mSh v j = true) : hCt l z m_X6_endurance [.ref (z.1 + 0), .int (nI j)] 215 M R 215 (some (.int 0)) M R := by
  have k := t_endu h (l := l) (z := z) hj
  rw [(mEu_s h.rl.wv hj h0).mp hs] at k
  exact k
/-- as many levels are held as aircraft hold -/
theorem mCnt_sm {v : Nat → Int32} {n : Nat} : mCnt v 0 n = sm (fun j => if v (14 + 7 * j + 2) = 0 then 1 else 0) n := by
  induction n with
  | zero => rfl
  | succ n ih =>
    rw [mCnt, sm, ih]
    by_cases e : v (14 + 7 * n + 2) = 0
    · rw [if_pos e, if_pos e]
    · rw [if_neg e, if_neg e]
theorem on_held {v : Nat → Int32} {lv c : Nat} (h : WV v lv c) : sm (fun i => oG (fun _ => 1) (mOn v (nI i) c)) lv = mCnt v 0 c := (sm_lv h (fun _ => 1) (Nat.le_refl c)).trans mCnt_sm.symm
theorem cnt3 {v : Nat → Int32} {lv c : Nat} (h : WV v lv c) : ∀ n, n ≤ c → cntN v 0 n + cntN v 1 n + cntN v 2 n = n
  | 0, _ => rfl
  | n + 1, hn => by
    have ih := cnt3 h n (by omega)
    rw [cntN, cntN, cntN]
    rcases (h.ac (show n < c by omega)).st with e | e | e
    · rw [if_pos e, if_neg (by rw [e]; decide), if_neg (by rw [e]; decide)]; omega
    · rw [if_neg (by rw [e]; decide), if_pos e, if_neg (by rw [e]; decide)]; omega
    · rw [if_neg (by rw [e]; decide), if_neg (by rw [e]; decide), if_pos e]; omega
theorem cnt_2 {v : Nat → Int32} {lv c : Nat} (h : WV v lv c) : mCnt v 2 c = nI c - mCnt v 0 c - mCnt v 1 c := by
  have e := cnt3 h c (Nat.le_refl c)
  rw [mCnt_n, mCnt_n, mCnt_n, nI_sub (by omega), nI_sub (by omega)]
  congr 1
  omega
end ANS
