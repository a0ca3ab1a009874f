/-! the parsers: what a good strip leaves -/
theorem kk_f {s : Nat → Int32} {x : Int32} {k : Nat} (h3 : k ≠ 3) : sFail s x k = s k := by
  unfold sFail
  split
  · exact upd_n h3
  · rfl
theorem kk_e {t s : Nat → Int32} {x : Int32} {k : Nat} (h2 : k ≠ 2) (h3 : k ≠ 3) : sExp t s x k = s k := by
  unfold sExp
  split
  · exact upd_n h2
  · exact kk_f h3
theorem kk_rn {t : Nat → Int32} {j : Nat} (h2 : j ≠ 2) : ∀ (k : Nat) (s : Nat → Int32) (x : Int32), (rnL t k s x).2 j = s j
  | 0, _, _ => rfl
  | k + 1, s, x => by
    rw [rnL]
    split
    · rw [kk_rn h2 k]; exact upd_n h2
    · rfl
theorem kk_n {t s : Nat → Int32} {a b : Int32} {k : Nat} (h2 : k ≠ 2) (h3 : k ≠ 3) : (sNm t s a b).2 k = s k := by
  unfold sNm rnE
  split
  · show sFail _ _ k = s k
    rw [kk_f h3, kk_rn h2]
  · exact kk_rn h2 _ _ _
theorem kk_k {t s : Nat → Int32} {k : Nat} (h2 : k ≠ 2) (h3 : k ≠ 3) : sKd t s k = s k := by
  unfold sKd
  split
  · exact upd_n h2
  · rw [upd_n h2, kk_f h3]
/-- the value of a good number -/
theorem num_v {t s tt : Nat → Int32} {L p k : Nat} {lo hi : Int32} (h : pOk s L p) (ht : txO t L) (hp : p ≤ L) (hg : mIs t L p lo hi = true) : mIt t L p tt k = upd tt k (sNm t s lo hi).1 ∧ bIn (sNm t s lo hi).1 lo hi = true := by
  unfold mIs at hg
  unfold mIt
  cases hn : mNu t L p with
  | none => rw [hn] at hg; exact absurd hg Bool.false_ne_true
  | some q =>
    rw [hn] at hg
    rw [sNm_some ht h.1 h.2.1 hp hn]
    exact ⟨rfl, hg⟩
/-- a good strip's content in the class's reader and the model's row -/
def sG (g T : Nat → Int32) : Prop :=
  (g 4 = 43 ∧ T 0 = 0 ∧ g 5 = T 1 ∧ g 6 = T 2 ∧ g 7 = T 3) ∨ (g 4 = 99 ∧ T 0 = 1 ∧ g 7 = T 1) ∨ (g 4 = 116 ∧ T 0 = 2 ∧ g 7 = T 1 ∧ bIn (T 1) 1 99 = true) ∨ (T 0 = 3 ∧ ((g 4 = 111 ∧ T 1 = 1) ∨ (g 4 = 120 ∧ T 1 = 0)))
theorem entry_g {t g tt : Nat → Int32} {L p : Nat} (h : pOk g L (p + 1)) (ht : txO t L) (hp : p < L) (h43 : mTk t L p 43 = true) (hg : (mSb t L p).1 = true) (g4 : g 4 = 43) : sG (sEn t g) (mSk t L tt p) := by
  have hL := ht.1
  unfold mSb at hg
  rw [if_pos h43] at hg
  have k1 := sKd_ok h ht (by omega)
  by_cases e1 : mKd t L (p + 1) = -6
  · rw [if_pos e1] at hg; exact absurd hg Bool.false_ne_true
  · rw [if_neg e1] at hg
    have hp2 := mKd_p e1
    have o1 : pOk (sEn1 t g) L (p + 2) := (k1.1 e1).up (by decide)
    have o2 := num7 (lo := 1) (hi := 9999) o1 ht (by omega) 6 (by decide)
    have hi := mIp_p (s := t) (L := L) (p := p + 2) (a := 1) (b := 9999) (by omega)
    by_cases e2 : mIs t L (p + 2) 1 9999 = false
    · rw [if_pos e2] at hg; exact absurd hg Bool.false_ne_true
    · rw [if_neg e2] at hg
      have e2t := (Bool.not_eq_false _).mp e2
      have o3 : pOk (sEn2 t g) L (mIp t L (p + 2) 1 9999) := o2.1 e2t
      have o4 := sExp_ok (q := 64) o3 ht hi.2.1 (by decide) (by decide)
      by_cases e3 : mTk t L (mIp t L (p + 2) 1 9999) 64 = false
      · rw [if_pos e3] at hg; exact absurd hg Bool.false_ne_true
      · rw [if_neg e3] at hg
        have o5 : pOk (sEn3 t g) L (mIp t L (p + 2) 1 9999 + 1) := o4.1 ((Bool.not_eq_false _).mp e3)
        have h64 := mTk_p (by decide) ((Bool.not_eq_false _).mp e3)
        have n1 := num_v (tt := upd (upd tt 0 0) 1 (mKd t L (p + 1))) (k := 2) o1 ht (by omega) e2t
        have n2 := num_v (tt := upd (upd (upd tt 0 0) 1 (mKd t L (p + 1))) 2 (sNm t (sEn1 t g) 1 9999).1) (k := 3) o5 ht (by omega) hg
        have ek : mKd t L (p + 1) = cKd (sPk t g) := by
          have i1 := sPk_is (q := 108) ht h.1 h.2.1 (by omega) (by decide) (by decide)
          have i2 := sPk_is (q := 109) ht h.1 h.2.1 (by omega) (by decide) (by decide)
          have i3 := sPk_is (q := 104) ht h.1 h.2.1 (by omega) (by decide) (by decide)
          have j1 : sPk t g = 108 ↔ mHe t L (p + 1) = 108 := i1
          have j2 : sPk t g = 109 ↔ mHe t L (p + 1) = 109 := i2
          have j3 : sPk t g = 104 ↔ mHe t L (p + 1) = 104 := i3
          unfold mKd at e1 ⊢
          unfold cKd
          by_cases a : mHe t L (p + 1) = 108
          · rw [if_pos a, if_pos (j1.mpr a)]
          · have a2 : ¬ sPk t g = 108 := fun q => a (j1.mp q)
            rw [if_neg a] at e1
            rw [if_neg a, if_neg a2]
            by_cases b : mHe t L (p + 1) = 109
            · rw [if_pos b, if_pos (j2.mpr b)]
            · have b2 : ¬ sPk t g = 109 := fun q => b (j2.mp q)
              rw [if_neg b] at e1
              rw [if_neg b, if_neg b2]
              by_cases c : mHe t L (p + 1) = 104
              · rw [if_pos c]
              · rw [if_neg c] at e1; exact absurd rfl e1
        have em : mSk t L tt p = upd (upd (upd (upd tt 0 0) 1 (mKd t L (p + 1))) 2 (sNm t (sEn1 t g) 1 9999).1) 3 (sNm t (sEn3 t g) 0 15).1 := by
          unfold mSk
          rw [if_pos h43, if_neg e1, if_neg e2, if_neg e3, n1.1, n2.1]
        rw [em]
        left
        unfold sEn
        refine ⟨?_, ?_, ?_, ?_, ?_⟩
        · rw [upd_n (by decide), kk_n (by decide) (by decide)]
          unfold sEn3
          rw [kk_e (by decide) (by decide)]
          unfold sEn2
          rw [upd_n (by decide), kk_n (by decide) (by decide)]
          unfold sEn1
          rw [upd_n (by decide), kk_k (by decide) (by decide), g4]
        · rw [upd_n (by decide), upd_n (by decide), upd_n (by decide), upd_s]
        · rw [upd_n (by decide), kk_n (by decide) (by decide)]
          unfold sEn3
          rw [kk_e (by decide) (by decide)]
          unfold sEn2
          rw [upd_n (by decide), kk_n (by decide) (by decide)]
          rw [upd_n (by decide), upd_n (by decide), upd_s, ek]
          unfold sEn1
          rw [upd_s]
        · rw [upd_n (by decide), kk_n (by decide) (by decide)]
          unfold sEn3
          rw [kk_e (by decide) (by decide)]
          unfold sEn2
          rw [upd_s, upd_n (by decide), upd_s]
        · rw [upd_s, upd_s]
