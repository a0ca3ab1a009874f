/-! after the diverted; one that lands -/
theorem Rel.ds {f : hMem} {v : Nat → Int32} {lv c : Nat} (h : Rel f v lv c) : Rel (dv f lv) (mDs v c) lv c := by
  obtain ⟨m1, m2, m3⟩ := mDs_at (v := v) c
  obtain ⟨b1, b2', b3, b4, b5⟩ := dv_at h (Nat.le_refl lv)
  have hl16 := h.sw.l16
  have e0 : ∀ j, mDs v c (14 + 7 * j) = v (14 + 7 * j) := fun j => by have := m3 j 0 (by decide); rw [if_neg (by omega), if_neg (by omega)] at this; exact this
  have e1 : ∀ j, mDs v c (14 + 7 * j + 1) = v (14 + 7 * j + 1) := fun j => by rw [m3 j 1 (by decide), if_neg (by omega), if_neg (by omega)]
  have e3 : ∀ j, mDs v c (14 + 7 * j + 3) = v (14 + 7 * j + 3) := fun j => by rw [m3 j 3 (by decide), if_neg (by omega), if_neg (by omega)]
  have e4 : ∀ j, mDs v c (14 + 7 * j + 4) = v (14 + 7 * j + 4) := fun j => by rw [m3 j 4 (by decide), if_neg (by omega), if_neg (by omega)]
  have e5 : ∀ j, mDs v c (14 + 7 * j + 5) = v (14 + 7 * j + 5) := fun j => by rw [m3 j 5 (by decide), if_neg (by omega), if_neg (by omega)]
  have e2t : ∀ j, j < c → dD v j = true → mDs v c (14 + 7 * j + 2) = 2 := fun j hj h0 => by rw [m3 j 2 (by decide), if_pos ⟨⟨hj, h0⟩, rfl⟩]
  have e2f : ∀ j, ¬ dD v j = true → mDs v c (14 + 7 * j + 2) = v (14 + 7 * j + 2) := fun j h0 => by rw [m3 j 2 (by decide), if_neg (fun q => h0 q.1.2), if_neg (fun q => h0 q.1.2)]
  have e6t : ∀ j, j < c → dD v j = true → mDs v c (14 + 7 * j + 6) = v 0 := fun j hj h0 => by rw [m3 j 6 (by decide), if_neg (by omega), if_pos ⟨⟨hj, h0⟩, rfl⟩]
  have e6f : ∀ j, ¬ dD v j = true → mDs v c (14 + 7 * j + 6) = v (14 + 7 * j + 6) := fun j h0 => by rw [m3 j 6 (by decide), if_neg (fun q => h0 q.1.2), if_neg (fun q => h0 q.1.2)]
  have hz : ∀ j, j < c → mDs v c (14 + 7 * j + 2) = 0 → ¬ dD v j = true ∧ v (14 + 7 * j + 2) = 0 := fun j hj h0 => by
    by_cases e : dD v j = true
    · rw [e2t j hj e] at h0; exact absurd h0 (by decide)
    · exact ⟨e, (e2f j e).symm.trans h0⟩
  have el : mDs v c 2 = v 2 := m1 2 (by decide) (by decide)
  have hP : ∀ j, j < c → dD v j = true → dD v j = true ∧ ∃ l, l < lv ∧ v (14 + 7 * j + 3) = nI l := fun j hj h0 => ⟨h0, (h.wv.ac hj).le (dD_0 h0)⟩
  refine ⟨⟨h.wv.mw.ds c, h.wv.l4, ?_, ?_, ?_, ?_, fun j hj => ⟨?_, ?_, fun h0 => ⟨?_, ?_, ?_, fun k hk h1 h2 => ?_⟩⟩⟩, SWdv h.sw lv, fun k h4 h5 => ?_, fun j hj => ⟨?_, ?_, ?_, fun h0 => ⟨?_, ?_, ?_⟩, fun h0 => ?_⟩, fun i hi => ?_⟩
  · rw [el]; exact h.wv.lap
  · rw [m1 5 (by decide) (by decide)]; exact h.wv.op
  · rw [m1 6 (by decide) (by decide)]; exact h.wv.au
  · rw [m1 4 (by decide) (by decide)]; exact h.wv.wt
  · rw [e1]; exact (h.wv.ac hj).fu
  · by_cases e : dD v j = true
    · exact Or.inr (Or.inr (e2t j hj e))
    · rw [e2f j e]; exact (h.wv.ac hj).st
  · rw [e3]; exact (h.wv.ac hj).le (hz j hj h0).2
  · rw [e4, el]; exact (h.wv.ac hj).pl (hz j hj h0).2
  · rw [e5]; exact (h.wv.ac hj).ca (hz j hj h0).2
  · rw [e3, e3] at h2
    exact (h.wv.ac hj).un (hz j hj h0).2 hk (hz k hk h1).2 h2
  · by_cases e : k = 14
    · subst e
      rw [b3, sm_lv h.wv _ (Nat.le_refl c)]
      refine Eq.trans ?_ m2.symm
      refine congrArg (v 12 + ·) (sm_eq (fun j _ => ?_))
      by_cases h0 : v (14 + 7 * j + 2) = 0
      · rw [if_pos h0]
      · rw [if_neg h0, dG, if_neg (fun q => h0 (dD_0 q))]
    · rw [b1 k e, h.sc h4 h5, m1 (rs k) rs_lt (fun q => e ?_)]
      revert q
      unfold rs
      split <;> simp
  · rw [b4 j 1 (by decide) (by decide), e0]; exact (h.ra hj).kd
  · rw [b4 j 2 (by decide) (by decide), e1]; exact (h.ra hj).fu
  · by_cases e : dD v j = true
    · rw [((b5 j hj).1 (hP j hj e)).1, e2t j hj e]
    · rw [((b5 j hj).2 (fun q => e q.1)).1, e2f j e]; exact (h.ra hj).st
  · rw [b4 j 4 (by decide) (by decide), e3]; exact (h.ra hj).le (hz j hj h0).2
  · rw [b4 j 5 (by decide) (by decide), e4]; exact (h.ra hj).pl (hz j hj h0).2
  · rw [b4 j 6 (by decide) (by decide), e5]; exact (h.ra hj).ca (hz j hj h0).2
  · by_cases e : dD v j = true
    · rw [((b5 j hj).1 (hP j hj e)).2, e6t j hj e]
    · rw [((b5 j hj).2 (fun q => e q.1)).2, e6f j e]; exact (h.ra hj).wh (by rw [← e2f j e]; exact h0)
  · rw [mOn_leave (s := 2) h.wv (dD v) (by decide) (fun j hj => ?_) (fun j _ => e3 j), b2' i hi, h.ho hi]
    · unfold dL
      cases hm : mOn v (nI i) c with
      | none => exact if_neg (fun q => Bool.false_ne_true q.2)
      | some j =>
        simp only
        by_cases e : dD v j = true
        · rw [if_pos e]
          have hj := mOn_lt hm
          obtain ⟨l, hl1, hl2⟩ := (h.wv.ac hj.1).le hj.2.1
          have : l = i := (nI_eq (by omega) (by omega)).mp (hl2.symm.trans hj.2.2)
          rw [if_pos ⟨by omega, e⟩]
          rfl
        · rw [if_neg e, if_neg (fun q => e q.2)]
    · by_cases e : dD v j = true
      · rw [if_pos e, e2t j hj e]
      · rw [if_neg e, e2f j e]
