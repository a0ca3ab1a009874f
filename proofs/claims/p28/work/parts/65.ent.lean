/-! entering and calling: what is refused -/
theorem bFuel_in {x : Int32} : bFuel x = bIn x 1 9999 := rfl
theorem bK_in {x : Int32} : bK x = bIn x 0 2 := by
  cases e : bIn x 0 2 with
  | true => exact decide_eq_true (bIn_hk e)
  | false =>
    refine decide_eq_false (fun q => ?_)
    rcases q with rfl | rfl | rfl <;> exact absurd e (by decide)
theorem Rel.fl {f : hMem} {v : Nat → Int32} {lv c : Nat} (h : Rel f v lv c) : bFull f = true ↔ v 3 = 20 := by
  have hc := h.sw.c20
  unfold bFull
  rw [decide_eq_true_iff, h.sw.ct, h.wv.mw.ct, nI_leI (by decide) (by omega)]
  refine ⟨fun q => by rw [show c = 20 by omega]; rfl, fun q => ?_⟩
  have := (nI_eq (b := 20) (by omega) (by decide)).mp q
  omega
theorem Rel.ew {M : hMem} {v : Nat → Int32} {lv c : Nat} {x fu y : Int32} (h : Rel (getS M 1) v lv c) : (mEw v x fu y < 0 → cEn M c x fu y = (mEw v x fu y, M)) ∧
    (¬ mEw v x fu y < 0 → (0 < mRf v c x fu y → cEn M c x fu y = (-5, up2 M 1 15 (mRf v c x fu y))) ∧ (¬ 0 < mRf v c x fu y → cEn M c x fu y = (0, M) ∧ mRf v c x fu y = 0)) := by
  have hfl := h.fl
  unfold cEn
  rw [bK_in, h.bh, bFuel_in]
  unfold mEw
  by_cases h1 : bIn x 0 2 = false ∨ mLv v y = false
  · rw [if_pos h1, if_pos h1]
    exact ⟨fun _ => rfl, fun q => absurd (by decide) q⟩
  · rw [if_neg h1, if_neg h1]
    by_cases h2 : bIn fu 1 9999 = false
    · rw [if_pos h2, if_pos h2]
      exact ⟨fun _ => rfl, fun q => absurd (by decide) q⟩
    · rw [if_neg h2, if_neg h2]
      by_cases h3 : v 3 = 20
      · rw [if_pos h3, if_pos (hfl.mpr h3)]
        exact ⟨fun _ => rfl, fun q => absurd (by decide) q⟩
      · have n3 : ¬ bFull (getS M 1) = true := fun q => h3 (hfl.mp q)
        rw [if_neg h3, if_neg n3]
        refine ⟨fun q => absurd q (by decide), fun _ => ?_⟩
        have hy : mLv v y = true := by
          cases e : mLv v y with
          | true => rfl
          | false => exact absurd (Or.inr e) h1
        obtain ⟨i, hi, rfl⟩ := (mLv_n h.wv.mw).mp hy
        rw [h.rf hi]
        refine ⟨fun q => ?_, fun q => ?_⟩
        · rw [if_neg (fun e => by rw [e] at q; exact absurd q (by decide))]
        · have : mRf v c x fu (nI i) = 0 := by
            unfold mRf at q ⊢
            by_cases e1 : ¬ oI (mOn v (nI i) c) = -6
            · rw [if_pos e1] at q; exact absurd (by decide) q
            · rw [if_neg e1] at q ⊢
              by_cases e2 : fu ≤ kRes x
              · rw [if_pos e2] at q; exact absurd (by decide) q
              · rw [if_neg e2] at q ⊢
                by_cases e3 : mCnt v 0 c < v 7
                · rw [if_pos e3]
                · rw [if_neg e3] at q; exact absurd (by decide) q
          rw [if_pos this]
          exact ⟨rfl, this⟩
theorem Rel.cw {M : hMem} {v : Nat → Int32} {lv c j : Nat} (h : Rel (getS M 1) v lv c) (hj : j < c) : cCl M (nI j) = mCw v j := by
  have hc := h.sw.c20
  have hl16 := h.sw.l16
  have hj20 : j < 20 := by omega
  have a := h.ra hj
  unfold cCl
  rw [sNum_n h.sw hj]
  simp only [g1 (M := M) hj20]
  rw [a.st]
  unfold mCw
  by_cases h0 : v (14 + 7 * j + 2) = 0
  · rw [a.le h0, a.ca h0]
    obtain ⟨l, hl1, hl2⟩ := (h.wv.ac hj).le h0
    have hc2 := (h.wv.ac hj).ca h0
    rw [hl2]
    by_cases e : ¬ v (14 + 7 * j + 2) = 0 ∨ nI l = 0 ∨ v (14 + 7 * j + 5) = 1
    · rw [if_pos e, if_neg]
      rintro ⟨-, q1, q2⟩
      rcases e with e | e | e
      · exact e h0
      · rw [e] at q1; exact absurd q1 (by decide)
      · rw [e] at q2; exact absurd q2 (by decide)
    · rw [if_neg e, if_pos]
      refine ⟨h0, (nI_gt0 (by omega)).mpr ?_, hc2.resolve_right (fun q => e (Or.inr (Or.inr q)))⟩
      by_cases el : l = 0
      · exact absurd (Or.inr (Or.inl (by rw [el]; rfl))) e
      · omega
  · rw [if_pos (Or.inl h0), if_neg (fun q => h0 q.1)]
