/-! the parsers: a number, read or failed -/
theorem mNu_h {t : Nat → Int32} {L p : Nat} {q : Int32 × Nat} (h : mNu t L p = some q) : p < q.2 ∧ q.2 ≤ L := mNu_p h
theorem sNm_none {t s : Nat → Int32} {L p : Nat} {lo hi : Int32} (h : txO t L) (h1 : s 1 = nI L) (h2 : s 2 = nI p) (hp : p ≤ L) (hn : mNu t L p = none) : sNm t s lo hi = (0, sFail s (nI p)) := by
  have hL := h.1
  have hd := bDig_is (s := s) h h1 h2 (by omega)
  have e : ¬ bIn (mHe t L p) 48 57 = true := by
    unfold mNu at hn
    by_cases e : mDg t L p < 0
    · exact mDg_in.mp e
    · rw [if_neg e] at hn
      split at hn <;> cases hn
  have r : ∀ k, rnL t (k + 1) s 0 = (0, s) := fun k => by
    have n1 : ¬ bDig (sPk t s) = true := by rw [hd.1]; exact e
    rw [rnL, if_neg n1]
  have r2 : rnL t (rnD t s) s 0 = (0, s) := by
    unfold rnD
    split
    · exact r 0
    · exact r 3
  unfold sNm rnE
  rw [r2, h2, if_pos (Or.inl h2)]
theorem rnL_m {t s : Nat → Int32} {L p : Nat} {q : Int32 × Nat} (h : txO t L) (h1 : s 1 = nI L) (h2 : s 2 = nI p) (hp : p ≤ L) (hn : mNu t L p = some q) : rnL t (rnD t s) s 0 = (q.1, upd s 2 (nI q.2)) := by
  have hL := h.1
  have hd := bDig_is (s := s) h h1 h2 (by omega)
  unfold mNu at hn
  by_cases e : mDg t L p < 0
  · rw [if_pos e] at hn; cases hn
  · rw [if_neg e] at hn
    have eb : bIn (mHe t L p) 48 57 = true := Classical.not_not.mp (fun x => e (mDg_in.mpr x))
    have em : mDg t L p = mHe t L p - 48 := by unfold mDg; rw [if_pos eb]
    have h48 : sPk t s = 48 ↔ mHe t L p = 48 := sPk_is (q := 48) h h1 h2 (by omega) (by decide) (by decide)
    have z : ∀ x : Int32, 10 * 0 + x = x := fun x => by rw [Int32.mul_zero, Int32.zero_add]
    have s0 : mDg t L p = 0 ↔ mHe t L p = 48 := by
      rw [em]
      exact ⟨fun x => by have := Int32.sub_add_cancel (mHe t L p) 48; rw [x] at this; exact this.symm, fun x => by rw [x]; rfl⟩
    unfold rnD
    by_cases e0 : mDg t L p = 0
    · rw [if_pos e0] at hn
      cases hn
      rw [if_pos (h48.mpr (s0.mp e0)), rnL_e h 1 p s 0 h1 h2 hp, mNl, if_neg e, mNl, z]
    · rw [if_neg e0] at hn
      cases hn
      rw [if_neg (fun x => e0 (s0.mpr (h48.mp x))), rnL_e h 4 p s 0 h1 h2 hp, mNl, if_neg e, z]
theorem sNm_some {t s : Nat → Int32} {L p : Nat} {lo hi : Int32} {q : Int32 × Nat} (h : txO t L) (h1 : s 1 = nI L) (h2 : s 2 = nI p) (hp : p ≤ L) (hn : mNu t L p = some q) :
    sNm t s lo hi = (q.1, if bIn q.1 lo hi = true then upd s 2 (nI q.2) else sFail (upd s 2 (nI q.2)) (nI p)) := by
  have hL := h.1
  have hq := mNu_p hn
  unfold sNm rnE
  rw [rnL_m h h1 h2 hp hn]
  have e1 : upd s 2 (nI q.2) 2 = nI q.2 := upd_s
  have n2 : ¬ nI q.2 = nI p := fun e => by have := (nI_eq (by omega) (by omega)).mp e; omega
  have n3 : (q.1 < lo ∨ hi < q.1) ↔ ¬ bIn q.1 lo hi = true := by
    unfold bIn
    rw [decide_eq_true_iff]
    refine ⟨fun x y => x.elim (fun x => Int32.not_le.mpr x y.1) (fun x => Int32.not_le.mpr x y.2), fun x => ?_⟩
    by_cases a : lo ≤ q.1
    · by_cases b : q.1 ≤ hi
      · exact absurd ⟨a, b⟩ x
      · exact Or.inr (Int32.not_le.mp b)
    · exact Or.inl (Int32.not_le.mp a)
  by_cases e : bIn q.1 lo hi = true
  · rw [if_pos e, if_neg (show ¬ (upd s 2 (nI q.2) 2 = s 2 ∨ q.1 < lo ∨ hi < q.1) from fun x => by
      rw [e1, h2] at x
      exact x.elim n2 (fun x => n3.mp x e))]
  · rw [if_neg e, if_pos (show upd s 2 (nI q.2) 2 = s 2 ∨ q.1 < lo ∨ hi < q.1 from Or.inr (n3.mpr e)), h2]
