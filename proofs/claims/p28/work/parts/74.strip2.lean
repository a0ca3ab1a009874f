/-! the parsers: a strip -/
theorem num7 {t g : Nat → Int32} {L p : Nat} {lo hi : Int32} (h : pOk g L p) (ht : txO t L) (hp : p ≤ L) (k : Nat) (hk : 4 ≤ k) : (mIs t L p lo hi = true → pOk (upd (sNm t g lo hi).2 k (sNm t g lo hi).1) L (mIp t L p lo hi)) ∧ (mIs t L p lo hi = false → pBad (upd (sNm t g lo hi).2 k (sNm t g lo hi).1) (mIp t L p lo hi)) :=
  ⟨fun e => ((h.num ht hp).1 e).up hk, fun e => ((h.num ht hp).2 e).up (by omega)⟩
theorem entry_ok {t g : Nat → Int32} {L p : Nat} (h : pOk g L (p + 1)) (ht : txO t L) (hp : p < L) (h43 : mTk t L p 43 = true) : ((mSb t L p).1 = true → pOk (sEn t g) L (mSb t L p).2) ∧ ((mSb t L p).1 = false → pBad (sEn t g) (mSb t L p).2) := by
  have hL := ht.1
  unfold mSb
  rw [if_pos h43]
  have k1 := sKd_ok h ht (by omega)
  by_cases e1 : mKd t L (p + 1) = -6
  · rw [if_pos e1]
    refine ⟨fun q => (by cases q), fun _ => ?_⟩
    have b1 : pBad (sEn1 t g) (p + 1) := (k1.2 e1).up (by decide)
    have b2 : pBad (sEn2 t g) (p + 1) := (b1.num (by omega)).up (by decide)
    have b3 : pBad (sEn3 t g) (p + 1) := b2.exp (by omega)
    exact (b3.num (by omega)).up (by decide)
  · rw [if_neg e1]
    have hp2 := mKd_p e1
    have o1 : pOk (sEn1 t g) L (p + 2) := (k1.1 e1).up (by decide)
    have o2 := num7 (lo := 1) (hi := 9999) o1 ht (by omega) 6 (by decide)
    have hi := mIp_p (s := t) (L := L) (p := p + 2) (a := 1) (b := 9999) (by omega)
    by_cases e2 : mIs t L (p + 2) 1 9999 = false
    · rw [if_pos e2]
      refine ⟨fun q => (by cases q), fun _ => ?_⟩
      have b2 : pBad (sEn2 t g) (mIp t L (p + 2) 1 9999) := o2.2 e2
      have b3 : pBad (sEn3 t g) (mIp t L (p + 2) 1 9999) := b2.exp (by omega)
      exact (b3.num (by omega)).up (by decide)
    · rw [if_neg e2]
      have o3 : pOk (sEn2 t g) L (mIp t L (p + 2) 1 9999) := o2.1 ((Bool.not_eq_false _).mp e2)
      have o4 := sExp_ok (q := 64) o3 ht hi.2.1 (by decide) (by decide)
      by_cases e3 : mTk t L (mIp t L (p + 2) 1 9999) 64 = false
      · rw [if_pos e3]
        refine ⟨fun q => (by cases q), fun _ => ?_⟩
        have b3 : pBad (sEn3 t g) (mIp t L (p + 2) 1 9999) := o4.2 e3
        exact (b3.num (by omega)).up (by decide)
      · rw [if_neg e3]
        have o5 : pOk (sEn3 t g) L (mIp t L (p + 2) 1 9999 + 1) := o4.1 ((Bool.not_eq_false _).mp e3)
        have h64 := mTk_p (by decide) ((Bool.not_eq_false _).mp e3)
        exact num7 (lo := 0) (hi := 15) o5 ht (by omega) 7 (by decide)
