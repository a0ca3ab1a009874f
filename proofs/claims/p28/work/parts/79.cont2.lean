/-! the parsers: what any good strip leaves -/
theorem sG.of {g g2 T : Nat → Int32} (h : sG g T) (h4 : g2 4 = g 4) (h5 : g2 5 = g 5) (h6 : g2 6 = g 6) (h7 : g2 7 = g 7) : sG g2 T := by
  unfold sG
  rw [h4, h5, h6, h7]
  exact h
theorem strip_g {t s tt : Nat → Int32} {L p : Nat} (h : pOk s L p) (ht : txO t L) (hp : p < L) (hg : (mSb t L p).1 = true) : sG (sSt2 t (sSt1 t s)) (mSk t L tt p) := by
  obtain ⟨g1, g4⟩ := sSt1_ok h ht hp
  generalize sSt1 t s = g at *
  have hL := ht.1
  unfold sSt2
  rw [g4]
  by_cases a : mHe t L p = 43
  · rw [if_pos a]
    exact entry_g g1 ht hp (decide_eq_true a) hg (g4.trans a)
  · rw [if_neg a]
    have na : ¬ mTk t L p 43 = true := fun q => a (of_decide_eq_true q)
    unfold mSb at hg
    unfold mSk
    rw [if_neg na] at hg
    rw [if_neg na]
    by_cases b : mHe t L p = 99
    · have tb : mTk t L p 99 = true := decide_eq_true b
      rw [if_pos tb] at hg
      rw [if_pos b, if_pos tb]
      have n1 := num_v (tt := upd tt 0 1) (k := 1) g1 ht (by omega) hg
      rw [n1.1]
      right; left
      refine ⟨?_, ?_, ?_⟩
      · rw [upd_n (by decide), kk_n (by decide) (by decide), g4, b]
      · rw [upd_n (by decide), upd_s]
      · rw [upd_s, upd_s]
    · have nb : ¬ mTk t L p 99 = true := fun q => b (of_decide_eq_true q)
      rw [if_neg nb] at hg
      rw [if_neg b, if_neg nb]
      by_cases c : mHe t L p = 116
      · have tc : mTk t L p 116 = true := decide_eq_true c
        rw [if_pos tc] at hg
        rw [if_pos c, if_pos tc]
        have n1 := num_v (tt := upd tt 0 2) (k := 1) g1 ht (by omega) hg
        rw [n1.1]
        right; right; left
        refine ⟨?_, ?_, ?_, ?_⟩
        · rw [upd_n (by decide), kk_n (by decide) (by decide), g4, c]
        · rw [upd_n (by decide), upd_s]
        · rw [upd_s, upd_s]
        · rw [upd_s]; exact n1.2
      · have nc : ¬ mTk t L p 116 = true := fun q => c (of_decide_eq_true q)
        rw [if_neg nc] at hg
        rw [if_neg c, if_neg nc]
        right; right; right
        by_cases d : mHe t L p = 111
        · rw [if_pos (Or.inl d), if_pos d]
          exact ⟨by rw [upd_n (by decide), upd_s], Or.inl ⟨g4.trans d, upd_s⟩⟩
        · have nd : ¬ mTk t L p 111 = true := fun q => d (of_decide_eq_true q)
          rw [if_neg nd] at hg
          have e : mHe t L p = 120 := of_decide_eq_true hg
          rw [if_pos (Or.inr e), if_neg d]
          exact ⟨by rw [upd_n (by decide), upd_s], Or.inr ⟨g4.trans e, upd_s⟩⟩
/-- one whole strip -/
theorem sRd_g {t s tt : Nat → Int32} {L p : Nat} (h : pOk s L p) (ht : txO t L) (hp : p < L) (hg : (mSb t L p).1 = true) : sG (sRd t s).2 (mSk t L tt p) := by
  rw [sRd_at h ht.1 hp]
  have r := strip_g (tt := tt) h ht hp hg
  exact r.of (kk_e (by decide) (by decide)) (kk_e (by decide) (by decide)) (kk_e (by decide) (by decide)) (kk_e (by decide) (by decide))
