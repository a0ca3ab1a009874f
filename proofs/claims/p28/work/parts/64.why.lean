/-! why, endurance -/
theorem Rel.why {M : hMem} {v : Nat → Int32} {lv c j : Nat} (h : Rel (getS M 1) v lv c) (hj : j < c) : hWhy M (nI j) = mWy v c j := by
  have hc := h.sw.c20
  have hl16 := h.sw.l16
  have hj20 : j < 20 := by omega
  have a := h.ra hj
  obtain ⟨w, hw1, hw2⟩ := h.wv.wt
  unfold hWhy
  rw [sNum_n h.sw hj]
  simp only [g1 (M := M) hj20]
  rw [a.kd, a.fu, a.st]
  unfold mWy
  by_cases h0 : v (14 + 7 * j + 2) = 0
  · have n0 : ¬ ¬ v (14 + 7 * j + 2) = 0 := fun q => q h0
    rw [if_neg n0, if_neg n0, a.pl h0, a.le h0, a.ca h0]
    have hov : mOv v j = false ↔ ¬ v (14 + 7 * j + 4) = 0 := by
      unfold mOv
      rw [decide_eq_false_iff_not]
      exact ⟨fun q e => q ⟨h0, e⟩, fun q e => q e.2⟩
    by_cases hp : v (14 + 7 * j + 4) = 0
    · have n1 : ¬ ¬ v (14 + 7 * j + 4) = 0 := fun q => q hp
      have n2 : ¬ mOv v j = false := fun q => hov.mp q hp
      rw [if_neg n1, if_neg n2]
      have hsh : mSh v j = true ↔ v (14 + 7 * j + 1) ≤ kRes (v (14 + 7 * j)) := decide_eq_true_iff
      by_cases hg : v (14 + 7 * j + 3) = 0 ∨ v (14 + 7 * j + 1) ≤ kRes (v (14 + 7 * j))
      · rw [if_pos hg, if_pos (hg.imp id hsh.mpr), g0 (M := M) (k := 6), g0 (M := M) (k := 8), h.sc (k := 6) (by decide) (by decide), h.sc (k := 8) (by decide) (by decide), show rs 6 = 5 from rfl, show rs 8 = 4 from rfl, hw2]
        by_cases e : v 5 = 0 ∨ 0 < nI w
        · rw [if_pos e, if_neg]
          rintro ⟨q1, q2⟩
          rcases e with e | e
          · exact q1 e
          · rw [q2] at e; exact absurd e (by decide)
        · rw [if_neg e, if_pos]
          refine ⟨fun q => e (Or.inl q), ?_⟩
          by_cases ew : w = 0
          · rw [ew]; rfl
          · exact absurd (Or.inr ((nI_gt0 (by omega)).mpr (by omega))) e
      · have n3 : ¬ (v (14 + 7 * j + 3) = 0 ∨ mSh v j = true) := fun q => hg (q.imp id hsh.mp)
        rw [if_neg hg, if_neg n3]
        obtain ⟨l, hl1, hl2⟩ := (h.wv.ac hj).le h0
        obtain ⟨k, rfl⟩ : ∃ k, l = k + 1 := ⟨l - 1, by
          by_cases e : l = 0
          · exact absurd (Or.inl (by rw [hl2, e]; rfl)) hg
          · omega⟩
        rw [hl2, nI_p1, h.fr (by omega), g0 (M := M) (k := 7), h.sc (k := 7) (by decide) (by decide), show rs 7 = 6 from rfl]
        cases hm : mOn v (nI k) c with
        | none =>
          rw [if_neg (show ¬ decide ((none : Option Nat) = none) = false by simp), if_neg (show ¬ ¬ oI none = -6 from fun q => q rfl)]
          by_cases e : v (14 + 7 * j + 5) = 0 ∧ v 6 = 0
          · have n4 : ¬ (¬ v (14 + 7 * j + 5) = 0 ∨ ¬ v 6 = 0) := fun q => q.elim (fun q => q e.1) (fun q => q e.2)
            rw [if_pos e, if_neg n4]
          · rw [if_neg e, if_pos]
            by_cases e1 : v (14 + 7 * j + 5) = 0
            · exact Or.inr (fun q => e ⟨e1, q⟩)
            · exact Or.inl e1
        | some b =>
          have hb := (mOn_lt hm).1
          rw [if_pos (show decide (some b = none) = false by simp), if_pos]
          intro e
          have := oI_6 e (fun i hi => by cases hi; omega)
          cases this
    · rw [if_pos hp, if_pos (hov.mpr hp)]
  · rw [if_pos h0, if_pos h0]
theorem Rel.endu {M : hMem} {v : Nat → Int32} {lv c j : Nat} (h : Rel (getS M 1) v lv c) (hj : j < c) : hEnu M (nI j) = mEu v j := by
  have hc := h.sw.c20
  have hj20 : j < 20 := by omega
  have a := h.ra hj
  unfold hEnu aUntil
  rw [sNum_n h.sw hj]
  simp only [g1 (M := M) hj20]
  rw [a.kd, a.fu, a.st]
  unfold mEu
  by_cases h0 : v (14 + 7 * j + 2) = 0
  · obtain ⟨b, b1, b2', b3⟩ := mBurn_n h.wv hj h0
    have n0 : ¬ ¬ v (14 + 7 * j + 2) = 0 := fun q => q h0
    rw [if_pos h0, if_neg n0, a.le h0]
    have e : aBurn (v (14 + 7 * j)) (v (14 + 7 * j + 3)) = mBurn v j (v (14 + 7 * j + 3)) := rfl
    rw [e, b3]
    have hb : ¬ nI b ≤ 0 := fun q => by have := (nI_leI (b := 0) (by omega) (by decide)).mp q; omega
    by_cases e0 : v (14 + 7 * j + 1) - kRes (v (14 + 7 * j)) ≤ 0
    · rw [if_pos (Or.inl e0), if_pos e0]
    · have n5 : ¬ (v (14 + 7 * j + 1) - kRes (v (14 + 7 * j)) ≤ 0 ∨ nI b ≤ 0) := fun q => q.elim e0 hb
      rw [if_neg n5, if_neg e0]
  · rw [if_neg h0, if_pos h0]
theorem mBurn_0 {v : Nat → Int32} {lv c j : Nat} (h : WV v lv c) (hj : j < c) (h0 : v (14 + 7 * j + 2) = 0) : mBurn v j (v (14 + 7 * j + 3)) ≠ 0 := by
  obtain ⟨b, b1, b2', b3⟩ := mBurn_n h hj h0
  rw [b3]
  intro e
  have := (nI_eq (b := 0) (by omega) (by decide)).mp e
  omega
