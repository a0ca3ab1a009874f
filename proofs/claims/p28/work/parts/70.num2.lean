/-! the parsers: a number -/
theorem mDg_in {t : Nat → Int32} {L p : Nat} : mDg t L p < 0 ↔ ¬ bIn (mHe t L p) 48 57 = true := by
  unfold mDg
  by_cases e : bIn (mHe t L p) 48 57 = true
  · rw [if_pos e]
    refine ⟨fun q => ?_, fun q => absurd e q⟩
    have h := of_decide_eq_true e
    have h1 := Int32.le_iff_toInt_le.mp h.1
    have h2 := Int32.le_iff_toInt_le.mp h.2
    have a1 : (48 : Int32).toInt = 48 := by decide
    have a2 : (57 : Int32).toInt = 57 := by decide
    have a0 : (0 : Int32).toInt = 0 := by decide
    have q1 := Int32.lt_iff_toInt_lt.mp q
    rw [Int32.toInt_sub, Int.bmod_eq_of_le (by omega) (by omega)] at q1
    omega
  · rw [if_neg e]
    exact ⟨fun _ => e, fun _ => by decide⟩
theorem upd_self {s : Nat → Int32} {k : Nat} {x : Int32} (h : s k = x) : upd s k x = s := by
  funext i
  by_cases e : i = k
  · subst e; rw [upd_s, h]
  · rw [upd_n e]
theorem upd_upd {s : Nat → Int32} {k : Nat} {x y : Int32} : upd (upd s k x) k y = upd s k y := by
  funext i
  by_cases e : i = k
  · subst e; rw [upd_s, upd_s]
  · rw [upd_n e, upd_n e, upd_n e]
theorem rnL_e {t : Nat → Int32} {L : Nat} (h : txO t L) : ∀ (k p : Nat) (s : Nat → Int32) (x : Int32), s 1 = nI L → s 2 = nI p → p ≤ L → rnL t k s x = ((mNl t L k p x).1, upd s 2 (nI (mNl t L k p x).2))
  | 0, p, s, x, _, h2, _ => by rw [rnL, mNl, upd_self h2]
  | k + 1, p, s, x, h1, h2, hp => by
    have hL := h.1
    have hd := bDig_is (s := s) h h1 h2 (by omega)
    rw [rnL, mNl]
    by_cases e : bIn (mHe t L p) 48 57 = true
    · have hp2 := mDg_p (fun q => mDg_in.mp q e)
      have em : mDg t L p = mHe t L p - 48 := by unfold mDg; rw [if_pos e]
      have n1 : ¬ mDg t L p < 0 := fun q => mDg_in.mp q e
      rw [if_pos (hd.1.trans e), hd.2 e, if_neg n1, h2, nI_1, rnL_e h k (p + 1) _ _ ((upd_n (by decide)).trans h1) upd_s (by omega), upd_upd, em]
    · have n1 : ¬ bDig (sPk t s) = true := by rw [hd.1]; exact e
      rw [if_neg n1, if_pos (mDg_in.mpr e), upd_self h2]
