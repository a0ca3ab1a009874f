/-! a forecast's answers in the class's memory -/
theorem Rel.ahd {M : hMem} {v : Nat → Int32} {lv c : Nat} (h : Rel (getS M 1) v lv c) (hA : KN (getS M 24)) : Rel (aC M c) v lv c := h.copy hA
theorem sNum_p {M g : hMem} {lv c j : Nat} (h : SW g lv c) (hj : j < c) : sNum (getS (putS M 24 g) 24) (nI j) = some j := sNum_n (SWget h) hj
theorem Rel.fm {M : hMem} {v : Nat → Int32} {lv c j : Nat} (h : Rel (getS M 1) v lv c) (hA : KN (getS M 24)) (hj : j < c) : hFm (putS M 24 (fcS lv c 600 (aC M c))) (nI j) = mLm v lv c j := by
  have hc := h.sw.c20
  obtain ⟨f1, -, f3⟩ := (h.ahd hA).fc hj
  have e1 : getS (putS M 24 (fcS lv c 600 (aC M c))) 1 = getS M 1 := getS_put (Or.inl (by decide))
  unfold hFm
  rw [e1, sNum_n h.sw hj]
  simp only
  rw [sNum_p f3 hj]
  simp only
  rw [pSj (by omega), pSj (by omega), pSo (Or.inl (by omega)), pSo (Or.inl (by omega)), g1 (M := M) (by omega), g0 (M := M) (k := 9), (h.ra hj).st, h.sc (k := 9) (by decide) (by decide)]
  exact f1
theorem Rel.lw {M : hMem} {v : Nat → Int32} {lv c j : Nat} (h : Rel (getS M 1) v lv c) (hA : KN (getS M 24)) (hj : j < c) : hLw (fcS lv c 600 (aC M c)) (nI j) = mLf v lv c j := by
  obtain ⟨-, f2, f3⟩ := (h.ahd hA).fc hj
  unfold hLw
  rw [sNum_n f3 hj]
  exact f2
