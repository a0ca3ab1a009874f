/-! the parsers: any strip -/
theorem strip_ok {t s : Nat → Int32} {L p : Nat} (h : pOk s L p) (ht : txO t L) (hp : p < L) : ((mSb t L p).1 = true → pOk (sSt2 t (sSt1 t s)) L (mSb t L p).2) ∧ ((mSb t L p).1 = false → pBad (sSt2 t (sSt1 t s)) (mSb t L p).2) := by
  obtain ⟨g1, g4⟩ := sSt1_ok h ht hp
  generalize sSt1 t s = g at *
  have hL := ht.1
  unfold sSt2
  rw [g4]
  by_cases a : mHe t L p = 43
  · rw [if_pos a]
    exact entry_ok g1 ht hp (decide_eq_true a)
  · rw [if_neg a]
    have na : ¬ mTk t L p 43 = true := fun q => a (of_decide_eq_true q)
    unfold mSb
    rw [if_neg na]
    by_cases b : mHe t L p = 99
    · rw [if_pos b, if_pos (show mTk t L p 99 = true from decide_eq_true b)]
      exact num7 g1 ht (by omega) 7 (by decide)
    · have nb : ¬ mTk t L p 99 = true := fun q => b (of_decide_eq_true q)
      rw [if_neg b, if_neg nb]
      by_cases c : mHe t L p = 116
      · rw [if_pos c, if_pos (show mTk t L p 116 = true from decide_eq_true c)]
        exact num7 g1 ht (by omega) 7 (by decide)
      · have nc : ¬ mTk t L p 116 = true := fun q => c (of_decide_eq_true q)
        rw [if_neg c, if_neg nc]
        by_cases d : mHe t L p = 111
        · rw [if_pos (Or.inl d), if_pos (show mTk t L p 111 = true from decide_eq_true d)]
          exact ⟨fun _ => g1, fun q => (by cases q)⟩
        · have nd : ¬ mTk t L p 111 = true := fun q => d (of_decide_eq_true q)
          rw [if_neg nd]
          by_cases e : mHe t L p = 120
          · rw [if_pos (Or.inr e), show mTk t L p 120 = true from decide_eq_true e]
            exact ⟨fun _ => g1, fun q => (by cases q)⟩
          · have ne : ¬ (mHe t L p = 111 ∨ mHe t L p = 120) := fun q => q.elim d e
            rw [if_neg ne, show mTk t L p 120 = false from decide_eq_false e, g1.2.1, nI_p1]
            exact ⟨fun q => (by cases q), fun _ => g1.fail⟩
