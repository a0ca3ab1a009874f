/-! what is told -/
theorem g1 {M : hMem} {j k : Nat} (hj : j < 20) : M (1 + (3 + j)) k = getS M 1 (3 + j) k := (getS_at (by omega)).symm
theorem g0 {M : hMem} {k : Nat} : M 1 k = getS M 1 0 k := getS_0.symm
theorem Rel.craft {M : hMem} {v : Nat → Int32} {lv c j w : Nat} (h : Rel (getS M 1) v lv c) (hj : j < c) (hw : w < 8) : hAc M (nI j) (nI w) = mCt v j w := by
  have hc := h.sw.c20
  have hj20 : j < 20 := by omega
  have a := h.ra hj
  unfold hAc
  rw [sNum_n h.sw hj]
  show (if nI w < 0 ∨ 8 ≤ nI w then -1 else hAcT M j (nI w)) = _
  rw [if_neg (fun q => q.elim (fun q => absurd ((nI_ltI (b := 0) (by omega) (by decide)).mp q) (Nat.not_lt_zero _)) (fun q => by have := (nI_leI (a := 8) (by decide) (by omega)).mp q; omega))]
  unfold hAcT tH
  simp only [g1 (M := M) hj20]
  rw [a.kd, a.fu, a.st]
  unfold mCt
  have hst : ∀ A B : Int32, (v (14 + 7 * j + 2) = 0 → A = B) → (if v (14 + 7 * j + 2) = 0 then A else -6) = (if v (14 + 7 * j + 2) = 0 then B else -6) := fun A B e => by
    by_cases e0 : v (14 + 7 * j + 2) = 0
    · rw [if_pos e0, if_pos e0, e e0]
    · rw [if_neg e0, if_neg e0]
  rcases (show w = 0 ∨ w = 1 ∨ w = 2 ∨ w = 3 ∨ w = 4 ∨ w = 5 ∨ w = 6 ∨ w = 7 by omega) with rfl | rfl | rfl | rfl | rfl | rfl | rfl | rfl
  · rfl
  · rfl
  · rfl
  · exact hst _ _ a.le
  · exact hst _ _ a.pl
  · exact hst _ _ a.ca
  · rfl
  · show (if v (14 + 7 * j + 2) = 0 then -6 else getS M 1 (3 + j) 7) = (if v (14 + 7 * j + 2) = 0 then -6 else v (14 + 7 * j + 6))
    by_cases e0 : v (14 + 7 * j + 2) = 0
    · rw [if_pos e0, if_pos e0]
    · rw [if_neg e0, if_neg e0, a.wh e0]
theorem Rel.tell {M : hMem} {v : Nat → Int32} {lv c w q : Nat} (h : Rel (getS M 1) v lv c) (hq : M 47 1 = nI q) (hw : w < 18) : hTl M c (nI w) = mTl v q c w := by
  have sc : ∀ k, 4 ≤ k → k ≤ 15 → M 1 k = v (rs k) := fun k h4 h5 => g0.trans (h.sc h4 h5)
  have s3 : M 1 3 = v 1 := g0.trans (h.sw.lv.trans h.wv.mw.lv.symm)
  have cn : ∀ x, sCnt (getS M 1) x c = mCnt v x c := fun x => h.cn (Nat.le_refl c)
  unfold hTl
  rw [if_neg (fun q => q.elim (fun q => absurd ((nI_ltI (b := 0) (by omega) (by decide)).mp q) (Nat.not_lt_zero _)) (fun q => by have := (nI_leI (a := 18) (by decide) (by omega)).mp q; omega))]
  unfold mTl
  rcases (show w = 0 ∨ w = 1 ∨ w = 2 ∨ w = 3 ∨ w = 4 ∨ w = 5 ∨ w = 6 ∨ w = 7 ∨ w = 8 ∨ w = 9 ∨ w = 10 ∨ w = 11 ∨ w = 12 ∨ w = 13 ∨ w = 14 ∨ w = 15 ∨ w = 16 ∨ w = 17 by omega) with rfl | rfl | rfl | rfl | rfl | rfl | rfl | rfl | rfl | rfl | rfl | rfl | rfl | rfl | rfl | rfl | rfl | rfl
  · exact sc 9 (by decide) (by decide)
  · exact s3
  · exact sc 4 (by decide) (by decide)
  · exact h.wv.mw.ct.symm
  · exact cn 0
  · exact cn 1
  · exact cn 2
  · exact sc 10 (by decide) (by decide)
  · exact sc 8 (by decide) (by decide)
  · exact sc 6 (by decide) (by decide)
  · exact sc 7 (by decide) (by decide)
  · exact sc 5 (by decide) (by decide)
  · exact sc 11 (by decide) (by decide)
  · exact sc 12 (by decide) (by decide)
  · exact sc 13 (by decide) (by decide)
  · exact sc 14 (by decide) (by decide)
  · exact sc 15 (by decide) (by decide)
  · exact hq
