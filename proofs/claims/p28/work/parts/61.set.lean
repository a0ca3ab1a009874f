/-! begin, the lap, answers -/
theorem Rel.nw {f : hMem} {v : Nat → Int32} {lv c l : Nat} (h : Rel f v lv c) (h4 : 4 ≤ l) (h16 : l ≤ 16) : Rel (sNew f (nI l)) (mBg v (nI l)) l 0 := by
  have e : ∀ k, k < 14 → mBg v (nI l) k = if k = 1 then nI l else if 8 ≤ k ∨ k = 4 ∨ k = 3 ∨ k = 0 then 0 else v k := by
    intro k hk
    unfold mBg
    by_cases k1 : k = 1
    · subst k1; rw [upd_s, if_pos rfl]
    · rw [upd_n k1, if_neg k1]
      unfold zro
      by_cases k8 : 8 ≤ k
      · rw [if_pos ⟨k8, by omega⟩, if_pos (Or.inl k8)]
      · rw [if_neg (fun q => k8 q.1)]
        by_cases k4 : k = 4
        · subst k4; rw [upd_s, if_pos (by decide)]
        · rw [upd_n k4]
          by_cases k3 : k = 3
          · subst k3; rw [upd_s, if_pos (by decide)]
          · rw [upd_n k3]
            by_cases k0 : k = 0
            · subst k0; rw [upd_s, if_pos (by decide)]
            · rw [upd_n k0, if_neg (by omega)]
  have e0 : ∀ k, 2 ≤ k → k ≤ 15 → sNew f (nI l) 0 k = if k = 3 then nI l else if k = 2 ∨ 8 ≤ k then 0 else f 0 k := by
    intro k hk hk2
    unfold sNew
    have hs : ∀ q, sFill (up2 (up2 f 0 3 (nI l)) 0 2 0) (-6) 0 q = up2 (up2 f 0 3 (nI l)) 0 2 0 0 q := fun q => by unfold sFill; rw [if_neg (by omega)]
    by_cases k8 : 8 ≤ k
    · rw [if_neg (by omega), if_pos (Or.inr k8)]
      rcases (show k = 8 ∨ k = 9 ∨ k = 10 ∨ k = 11 ∨ k = 12 ∨ k = 13 ∨ k = 14 ∨ k = 15 by omega) with rfl | rfl | rfl | rfl | rfl | rfl | rfl | rfl <;> rfl
    · rw [up2_off (by omega), up2_off (by omega), up2_off (by omega), up2_off (by omega), up2_off (by omega), up2_off (by omega), up2_off (by omega), up2_off (by omega), hs]
      by_cases k3 : k = 3
      · subst k3; rw [up2_off (by decide), up2_same, if_pos rfl]
      · rw [if_neg k3]
        by_cases k2 : k = 2
        · subst k2; rw [up2_same, if_pos (Or.inl rfl)]
        · rw [up2_off (by omega), up2_off (by omega), if_neg (by omega)]
  have er : ∀ j k, sNew f (nI l) (3 + j) k = f (3 + j) k := by
    intro j k
    unfold sNew
    rw [up2_off (by omega), up2_off (by omega), up2_off (by omega), up2_off (by omega), up2_off (by omega), up2_off (by omega), up2_off (by omega), up2_off (by omega)]
    unfold sFill
    rw [if_neg (by omega), up2_off (by omega), up2_off (by omega)]
  refine ⟨⟨⟨⟨by rw [e 1 (by decide), if_pos rfl], h16⟩, ⟨by rw [e 3 (by decide), if_neg (by decide), if_pos (by decide)]; rfl, by decide⟩, fun j hj => absurd hj (Nat.not_lt_zero _)⟩, h4, ?_, ?_, ?_, ⟨0, by decide, by rw [e 4 (by decide), if_neg (by decide), if_pos (by decide)]; rfl⟩, fun j hj => absurd hj (Nat.not_lt_zero _)⟩,
    ⟨⟨by rw [e0 3 (by decide) (by decide), if_pos rfl], h16⟩, ⟨by rw [e0 2 (by decide) (by decide), if_neg (by decide), if_pos (by decide)]; rfl, by decide⟩, fun j hj => ⟨(er j 0).trans (h.sw.nu hj), by rw [er j 1]; exact h.sw.kd hj⟩⟩, fun k h4 h5 => ?_, fun j hj => absurd hj (Nat.not_lt_zero _), fun i hi => ?_⟩
  · rw [e 2 (by decide), if_neg (by decide), if_neg (by decide)]; exact h.wv.lap
  · rw [e 5 (by decide), if_neg (by decide), if_neg (by decide)]; exact h.wv.op
  · rw [e 6 (by decide), if_neg (by decide), if_neg (by decide)]; exact h.wv.au
  · rw [e0 k (by omega) h5, if_neg (by omega), e (rs k) rs_lt]
    have hsc := h.sc h4 h5
    rcases (show k = 4 ∨ k = 5 ∨ k = 6 ∨ k = 7 ∨ k = 8 ∨ k = 9 ∨ k = 10 ∨ k = 11 ∨ k = 12 ∨ k = 13 ∨ k = 14 ∨ k = 15 by omega) with rfl | rfl | rfl | rfl | rfl | rfl | rfl | rfl | rfl | rfl | rfl | rfl <;>
      first | exact hsc | rfl
  · show sNew f (nI l) 2 i = -6
    unfold sNew
    rw [up2_off (by omega), up2_off (by omega), up2_off (by omega), up2_off (by omega), up2_off (by omega), up2_off (by omega), up2_off (by omega), up2_off (by omega)]
    unfold sFill
    rw [if_pos ⟨rfl, hi⟩]
theorem Rel.lv' {f : hMem} {v : Nat → Int32} {lv c i : Nat} (h : Rel f v lv c) (hi : i < lv) : hLev f (nI i) = oI (mOn v (nI i) c) := by
  unfold hLev
  rw [if_pos (bHas_n h.sw hi), h.on hi]
  cases mOn v (nI i) c <;> rfl
theorem mLv_n {v : Nat → Int32} {lv c : Nat} {x : Int32} (h : MW v lv c) : mLv v x = true ↔ ∃ i, i < lv ∧ x = nI i := by
  have hl := h.l16
  unfold mLv bIn
  rw [decide_eq_true_iff, h.lv]
  have e0 : (0 : Int32).toInt = 0 := by decide
  have e1 : (1 : Int32).toInt = 1 := by decide
  have t : (nI lv - 1).toInt = (lv : Int) - 1 := by rw [Int32.toInt_sub, nI_toInt (by omega), e1, Int.bmod_eq_of_le (by omega) (by omega)]
  rw [Int32.le_iff_toInt_le, Int32.le_iff_toInt_le, t, e0]
  refine ⟨fun q => ⟨x.toInt.toNat, by omega, Int32.toInt_inj.mp (by rw [nI_toInt (by omega)]; omega)⟩, fun ⟨i, hi, hx⟩ => ?_⟩
  rw [hx, nI_toInt (by omega)]
  omega
theorem Rel.bh {f : hMem} {v : Nat → Int32} {lv c : Nat} {x : Int32} (h : Rel f v lv c) : bHas f x = mLv v x := by
  have hl := h.sw.l16
  cases e : mLv v x with
  | true =>
    obtain ⟨i, hi, rfl⟩ := (mLv_n h.wv.mw).mp e
    exact bHas_n h.sw hi
  | false =>
    cases e2 : bHas f x with
    | false => rfl
    | true =>
      have q := of_decide_eq_true e2
      have : mLv v x = true := by
        refine (mLv_n h.wv.mw).mpr ⟨x.toInt.toNat, ?_, ?_⟩
        · have h1 := Int32.lt_iff_toInt_lt.mp q.2.1
          have h0 := Int32.le_iff_toInt_le.mp q.1
          rw [h.sw.lv, nI_toInt (by omega)] at h1
          have e0 : (0 : Int32).toInt = 0 := by decide
          omega
        · have h1 := Int32.lt_iff_toInt_lt.mp q.2.1
          have h0 := Int32.le_iff_toInt_le.mp q.1
          rw [h.sw.lv, nI_toInt (by omega)] at h1
          have e0 : (0 : Int32).toInt = 0 := by decide
          exact Int32.toInt_inj.mp (by rw [nI_toInt (by omega)]; omega)
      rw [e] at this; cases this
theorem Rel.level {f : hMem} {v : Nat → Int32} {lv c : Nat} (h : Rel f v lv c) (x : Int32) : hLev f x = mLe v c x := by
  unfold mLe
  by_cases e : mLv v x = true
  · obtain ⟨i, hi, rfl⟩ := (mLv_n h.wv.mw).mp e
    rw [if_pos e]
    exact h.lv' hi
  · rw [if_neg e]
    unfold hLev
    rw [h.bh, if_neg e]
theorem Rel.nm {f : hMem} {v : Nat → Int32} {lv c : Nat} {x : Int32} (h : Rel f v lv c) (hx : mCr v x = false) : sNum f x = none := by
  have hc := h.sw.c20
  cases e : sNum f x with
  | none => rfl
  | some j =>
    unfold sNum at e
    split at e
    · next q =>
      have h1 := Int32.lt_iff_toInt_lt.mp q.2.1
      have h0 := Int32.le_iff_toInt_le.mp q.1
      rw [h.sw.ct, nI_toInt (by omega)] at h1
      have e0 : (0 : Int32).toInt = 0 := by decide
      have hj : x = nI x.toInt.toNat := Int32.toInt_inj.mp (by rw [nI_toInt (by omega)]; omega)
      rw [hj, mCr_n h.wv.mw (by omega)] at hx
      cases hx
    · cases e
