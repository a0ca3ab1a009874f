/-! a strip carried out: both worlds, continued -/
theorem cO_ok {M : hMem} {v T : Nat → Int32} {lv c : Nat} (h : Rel (getS M 1) v lv c) (hg : sG (M 213) T) :
    Rel (getS (cO M lv c).2.1 1) (mCo v lv c T).2.1 lv (mCo v lv c T).2.2 ∧ (cO M lv c).2.2 = (mCo v lv c T).2.2 ∧ ((mCo v lv c T).1 = true → 0 ≤ (cO M lv c).1) ∧ ((mCo v lv c T).1 = false → ¬ 0 ≤ (cO M lv c).1) := by
  have hc := h.sw.c20
  have hl16 := h.sw.l16
  unfold cO mCo
  rcases hg with ⟨g4, t0, g5, g6, g7⟩ | ⟨g4, t0, g7⟩ | ⟨g4, t0, g7, hb⟩ | ⟨t0, hg⟩
  · rw [if_pos g4, if_pos t0, g5, g6, g7]
    have hw := h.ew (x := T 1) (fu := T 2) (y := T 3)
    by_cases a : mEw v (T 1) (T 2) (T 3) < 0
    · rw [if_pos a, hw.1 a]
      have n0 : ¬ mEw v (T 1) (T 2) (T 3) = 0 := fun q => by rw [q] at a; exact absurd a (by decide)
      rw [if_neg n0]
      exact ⟨h, rfl, fun q => absurd q Bool.false_ne_true, fun _ => mEw_1 a⟩
    · rw [if_neg a]
      have hw2 := hw.2 a
      by_cases b : 0 < mRf v c (T 1) (T 2) (T 3)
      · rw [if_pos b, hw2.1 b]
        have n0 : ¬ (-5 : Int32) = 0 := by decide
        rw [if_neg n0]
        have d5 : ¬ (0 : Int32) ≤ -5 := by decide
        refine ⟨?_, rfl, fun q => absurd q Bool.false_ne_true, fun _ => d5⟩
        have hu := h.up (k := 15) (x := mRf v c (T 1) (T 2) (T 3)) (by decide) (by decide) (h.wv.upF (by decide) (Or.inr (by decide)))
        exact Rel.upM (i := 0) (by decide) hu
      · rw [if_neg b, (hw2.2 b).1]
        rw [if_pos rfl]
        have ok := mEw_ok a
        have hk1 := bIn_hk ok.1
        obtain ⟨l, hl, el⟩ := (mLv_n h.wv.mw).mp ok.2.1
        obtain ⟨u, hu, eu⟩ := bIn_fu ok.2.2.1
        have hr0 := (hw2.2 b).2
        have hc20 : c < 20 := by
          have hne := ok.2.2.2
          rw [h.wv.mw.ct] at hne
          by_cases e : c = 20
          · subst e; exact absurd (by decide) hne
          · omega
        have hm := oI_6 (mRf_n hr0) (fun j hj => by have := mOn_lt hj; omega)
        rw [mEn_u]
        refine ⟨?_, rfl, fun _ => nI_le0 (by omega), fun q => absurd q.symm Bool.false_ne_true⟩
        rw [eu, el]
        rw [el] at hm
        exact (h.en hc20 hk1 hu hl hm).put
  · have n1 : ¬ M 213 4 = 43 := by rw [g4]; decide
    have n2 : ¬ T 0 = 0 := by rw [t0]; decide
    rw [if_neg n1, if_pos g4, if_neg n2, if_pos t0, g7]
    by_cases a : mCr v (T 1) = true
    · obtain ⟨j, hj, ej⟩ := mCr_ok h.wv.mw a
      rw [if_pos a, ej, nI_clamp (by omega), h.cw hj, sNum_n h.sw hj]
      by_cases b : mCw v j < 0
      · have n3 : ¬ mCw v j = 0 := fun q => by rw [q] at b; exact absurd b (by decide)
        rw [if_pos b, if_neg n3]
        exact ⟨h, rfl, fun q => absurd q Bool.false_ne_true, fun _ q => Int32.not_le.mpr b q⟩
      · have e0 : mCw v j = 0 ∧ v (14 + 7 * j + 2) = 0 := by
          unfold mCw at b ⊢
          by_cases q : ¬ v (14 + 7 * j + 2) = 0 ∨ v (14 + 7 * j + 3) = 0 ∨ v (14 + 7 * j + 5) = 1
          · rw [if_pos q] at b; exact absurd (by decide) b
          · rw [if_neg q]
            exact ⟨rfl, Classical.not_not.mp (fun x => q (Or.inl x))⟩
        rw [if_neg b, if_pos e0.1]
        simp only
        refine ⟨(h.cal hj e0.2).put, trivial, fun _ => ?_, fun q => absurd q.symm Bool.false_ne_true⟩
        obtain ⟨l, hl, el⟩ := (h.wv.ac hj).le e0.2
        rw [(h.ra hj).le e0.2, el]
        exact nI_le0 (by omega)
    · have a2 := (Bool.not_eq_true _).mp a
      have hn := h.nm a2
      have ec : cCl M (T 1) = -1 := by unfold cCl; rw [hn]
      have n3 : ¬ (-1 : Int32) = 0 := by decide
      rw [if_neg a, ec, if_neg n3]
      have d1 : ¬ (0 : Int32) ≤ -1 := by decide
      exact ⟨h, rfl, fun q => absurd q Bool.false_ne_true, fun _ => d1⟩
  · have n1 : ¬ M 213 4 = 43 := by rw [g4]; decide
    have n2 : ¬ M 213 4 = 99 := by rw [g4]; decide
    have m1 : ¬ T 0 = 0 := by rw [t0]; decide
    have m2 : ¬ T 0 = 1 := by rw [t0]; decide
    rw [if_neg n1, if_neg n2, if_pos g4, if_neg m1, if_neg m2, if_pos t0, g7]
    have hm := h.mn (T 1).toNatClampNeg
    obtain ⟨q, hq, eq⟩ := mGc_0 (v := v) (lv := lv) (c := c) (T 1).toNatClampNeg
    have hq9 : (T 1).toNatClampNeg < 2 ^ 31 := by
      obtain ⟨m, em, hm9⟩ := bIn_nat hb
      rw [em, nI_clamp hm9]; exact hm9
    refine ⟨hm.2.put, rfl, fun _ => ?_, fun q => absurd q.symm Bool.false_ne_true⟩
    rw [hm.1, eq]
    exact nI_le0 (by omega)
  · have m1 : ¬ T 0 = 0 := by rw [t0]; decide
    have m2 : ¬ T 0 = 1 := by rw [t0]; decide
    have m3 : ¬ T 0 = 2 := by rw [t0]; decide
    rw [if_neg m1, if_neg m2, if_neg m3]
    have n1 : ¬ M 213 4 = 43 := by rcases hg with hg | hg <;> (rw [hg.1]; decide)
    have n2 : ¬ M 213 4 = 99 := by rcases hg with hg | hg <;> (rw [hg.1]; decide)
    have n3 : ¬ M 213 4 = 116 := by rcases hg with hg | hg <;> (rw [hg.1]; decide)
    rw [if_neg n1, if_neg n2, if_neg n3]
    have e : (if M 213 4 = 111 then (1 : Int32) else 0) = if T 1 = 1 then 1 else 0 := by
      rcases hg with hg | hg
      · rw [hg.1, hg.2, if_pos rfl, if_pos rfl]
      · rw [hg.1, hg.2, if_neg (by decide), if_neg (by decide)]
    rw [e]
    have hx : (if T 1 = 1 then (1 : Int32) else 0) = 0 ∨ (if T 1 = 1 then (1 : Int32) else 0) = 1 := by
      split
      · exact Or.inr rfl
      · exact Or.inl rfl
    have d0 : (0 : Int32) ≤ 0 := by decide
    refine ⟨?_, rfl, fun _ => d0, fun q => absurd q.symm Bool.false_ne_true⟩
    have hu := h.up (k := 6) (x := if T 1 = 1 then 1 else 0) (by decide) (by decide) (h.wv.up5 hx)
    exact Rel.upM (i := 0) (by decide) hu
/-- outside the state of now nothing is touched -/
theorem cO_off {M : hMem} {lv c i k : Nat} (hi : i = 0 ∨ 24 ≤ i) : (cO M lv c).2.1 i k = M i k := by
  unfold cO
  by_cases a : M 213 4 = 43
  · rw [if_pos a]
    by_cases b : (cEn M c (M 213 5) (M 213 6) (M 213 7)).1 = 0
    · rw [if_pos b]; exact pSo (by omega)
    · rw [if_neg b]
      show (cEn M c (M 213 5) (M 213 6) (M 213 7)).2 i k = M i k
      unfold cEn
      (repeat' split) <;> first | rfl | exact up2_off (by omega)
  · rw [if_neg a]
    by_cases b : M 213 4 = 99
    · rw [if_pos b]
      by_cases d : cCl M (M 213 7) = 0
      · rw [if_pos d]
        cases sNum (getS M 1) (M 213 7) with
        | none => rfl
        | some j => exact pSo (by omega)
      · rw [if_neg d]
    · rw [if_neg b]
      by_cases d : M 213 4 = 116
      · rw [if_pos d]; exact pSo (by omega)
      · rw [if_neg d]; exact up2_off (by omega)
