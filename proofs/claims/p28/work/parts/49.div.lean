/-! after the fuel; the diverted -/
theorem mOn_c {v w : Nat → Int32} {x : Int32} {n : Nat} (h : ∀ j, j < n → w (14 + 7 * j + 2) = v (14 + 7 * j + 2) ∧ w (14 + 7 * j + 3) = v (14 + 7 * j + 3)) : mOn w x n = mOn v x n := by
  induction n with
  | zero => rfl
  | succ n ih => rw [mOn, mOn, ih (fun j hj => h j (by omega)), (h n (Nat.lt_succ_self n)).1, (h n (Nat.lt_succ_self n)).2]
theorem rs_lt {k : Nat} : rs k < 14 := by unfold rs; split <;> decide
theorem Rel.bs {f : hMem} {v : Nat → Int32} {lv c : Nat} (h : Rel f v lv c) : Rel (bf f lv) (mBs v c) lv c := by
  obtain ⟨m1, m2, m3⟩ := mBs_at (v := v) c
  obtain ⟨b1, b2', b3, b4, b5⟩ := bf_at h (Nat.le_refl lv)
  have hl16 := h.sw.l16
  have e2 : ∀ j, mBs v c (14 + 7 * j + 2) = v (14 + 7 * j + 2) := fun j => by rw [m3 j 2 (by decide), if_neg (by omega), if_neg (by omega)]
  have e3 : ∀ j, mBs v c (14 + 7 * j + 3) = v (14 + 7 * j + 3) := fun j => by rw [m3 j 3 (by decide), if_neg (by omega), if_neg (by omega)]
  have e5 : ∀ j, mBs v c (14 + 7 * j + 5) = v (14 + 7 * j + 5) := fun j => by rw [m3 j 5 (by decide), if_neg (by omega), if_neg (by omega)]
  have e6 : ∀ j, mBs v c (14 + 7 * j + 6) = v (14 + 7 * j + 6) := fun j => by rw [m3 j 6 (by decide), if_neg (by omega), if_neg (by omega)]
  have e0 : ∀ j, mBs v c (14 + 7 * j) = v (14 + 7 * j) := fun j => by have := m3 j 0 (by decide); rw [if_neg (by omega), if_neg (by omega)] at this; exact this
  have e1t : ∀ j, j < c → v (14 + 7 * j + 2) = 0 → mBs v c (14 + 7 * j + 1) = v (14 + 7 * j + 1) - mBq v j := fun j hj h0 => by rw [m3 j 1 (by decide), if_pos ⟨hj, h0, rfl⟩]
  have e1f : ∀ j, ¬ v (14 + 7 * j + 2) = 0 → mBs v c (14 + 7 * j + 1) = v (14 + 7 * j + 1) := fun j h0 => by rw [m3 j 1 (by decide), if_neg (fun q => h0 q.2.1), if_neg (fun q => h0 q.2.1)]
  have e4t : ∀ j, j < c → v (14 + 7 * j + 2) = 0 → mBs v c (14 + 7 * j + 4) = mPl v j := fun j hj h0 => by rw [m3 j 4 (by decide), if_neg (by omega), if_pos ⟨hj, h0, rfl⟩]
  have el : mBs v c 2 = v 2 := m1 2 (by decide) (by decide)
  have hP : ∀ j, j < c → v (14 + 7 * j + 2) = 0 → v (14 + 7 * j + 2) = 0 ∧ ∃ l, l < lv ∧ v (14 + 7 * j + 3) = nI l := fun j hj h0 => ⟨h0, (h.wv.ac hj).le h0⟩
  refine ⟨⟨h.wv.mw.bs c, h.wv.l4, ?_, ?_, ?_, ?_, fun j hj => ⟨?_, ?_, fun h0 => ⟨?_, ?_, ?_, fun k hk h1 h2 => ?_⟩⟩⟩, SWbf h.sw lv, fun k h4 h5 => ?_, fun j hj => ⟨?_, ?_, ?_, fun h0 => ⟨?_, ?_, ?_⟩, fun h0 => ?_⟩, fun i hi => ?_⟩
  · rw [el]; exact h.wv.lap
  · rw [m1 5 (by decide) (by decide)]; exact h.wv.op
  · rw [m1 6 (by decide) (by decide)]; exact h.wv.au
  · rw [m1 4 (by decide) (by decide)]; exact h.wv.wt
  · by_cases h0 : v (14 + 7 * j + 2) = 0
    · obtain ⟨q, u, h1, h2, h3, h4⟩ := mBq_n h.wv hj h0
      exact ⟨u - q, by omega, by rw [e1t j hj h0, h3, h4, nI_sub h1]⟩
    · rw [e1f j h0]; exact (h.wv.ac hj).fu
  · rw [e2]; exact (h.wv.ac hj).st
  · rw [e3]; rw [e2] at h0; exact (h.wv.ac hj).le h0
  · rw [e2] at h0
    rw [e4t j hj h0, el]
    exact mPl_n h.wv hj h0
  · rw [e5]; rw [e2] at h0; exact (h.wv.ac hj).ca h0
  · rw [e2] at h0 h1
    rw [e3, e3] at h2
    exact (h.wv.ac hj).un h0 hk h1 h2
  · by_cases e : k = 12
    · subst e
      rw [b3, sm_lv h.wv _ (Nat.le_refl c)]
      exact m2.symm
    · rw [b1 k e, h.sc h4 h5, m1 (rs k) rs_lt (fun q => e ?_)]
      revert q
      unfold rs
      split <;> simp
  · rw [b4 j 1 (by decide) (by decide), e0]; exact (h.ra hj).kd
  · by_cases h0 : v (14 + 7 * j + 2) = 0
    · rw [((b5 j hj).1 (hP j hj h0)).1, e1t j hj h0]
    · rw [((b5 j hj).2 (fun q => h0 q.1)).1, e1f j h0]; exact (h.ra hj).fu
  · rw [b4 j 3 (by decide) (by decide), e2]; exact (h.ra hj).st
  · rw [e2] at h0; rw [b4 j 4 (by decide) (by decide), e3]; exact (h.ra hj).le h0
  · rw [e2] at h0; rw [((b5 j hj).1 (hP j hj h0)).2, e4t j hj h0]
  · rw [e2] at h0; rw [b4 j 6 (by decide) (by decide), e5]; exact (h.ra hj).ca h0
  · rw [e2] at h0; rw [b4 j 7 (by decide) (by decide), e6]; exact (h.ra hj).wh h0
  · rw [b2', h.ho hi]
    exact congrArg oI (mOn_c (fun j hj => ⟨(e2 j).symm, (e3 j).symm⟩))
