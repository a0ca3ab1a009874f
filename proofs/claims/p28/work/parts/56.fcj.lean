/-! one aircraft's forecast -/
theorem mLN_sp {v : Nat → Int32} {lv c j : Nat} : ∀ (f n : Nat), n ≤ mLN v lv c j f n ∧ mLN v lv c j f n ≤ n + f ∧ (∀ i, n ≤ i → i < mLN v lv c j f n → mGo v lv c i (14 + 7 * j + 2) = 0) ∧
    (mLN v lv c j f n = n + f ∨ ¬ mGo v lv c (mLN v lv c j f n) (14 + 7 * j + 2) = 0)
  | 0, n => ⟨Nat.le_refl _, Nat.le_refl _, fun i h1 h2 => absurd h2 (Nat.not_lt.mpr h1), Or.inl rfl⟩
  | f + 1, n => by
    rw [mLN]
    by_cases h : mGo v lv c n (14 + 7 * j + 2) = 0
    · rw [if_pos h]
      obtain ⟨h1, h2, h3, h4⟩ := mLN_sp (v := v) (lv := lv) (c := c) (j := j) f (n + 1)
      refine ⟨by omega, by omega, fun i h5 h6 => ?_, h4.imp (fun e => by omega) id⟩
      by_cases e : i = n
      · subst e; exact h
      · exact h3 i (by omega) h6
    · rw [if_neg h]
      exact ⟨Nat.le_refl _, by omega, fun i h1 h2 => absurd h2 (Nat.not_lt.mpr h1), Or.inr h⟩
theorem mGo_0 {v : Nat → Int32} {lv c k : Nat} : mGo v lv c k 0 = v 0 + nI k := by
  induction k with
  | zero => exact (Int32.add_zero _).symm
  | succ k ih => rw [mGo, mPs_0, ih, Int32.add_assoc, nI_1]
theorem mGo_5 {v : Nat → Int32} {lv c k : Nat} : mGo v lv c k 5 = v 5 := by
  induction k with
  | zero => rfl
  | succ k ih => rw [mGo, mPs_5, ih]
theorem mGo_j {f : hMem} {v : Nat → Int32} {lv c j i q : Nat} (h : Rel f v lv c) (h0 : ¬ mGo v lv c i (14 + 7 * j + 2) = 0) (hq : q < 7) (h35 : q ≠ 3 ∧ q ≠ 5) (d : Nat) : mGo v lv c (i + d) (14 + 7 * j + q) = mGo v lv c i (14 + 7 * j + q) := by
  have key : ∀ d, mGo v lv c (i + d) (14 + 7 * j + 2) = mGo v lv c i (14 + 7 * j + 2) := by
    intro d
    induction d with
    | zero => rfl
    | succ d ih =>
      rw [← Nat.add_assoc, mGo, mPs_j (h.it (i + d)) (by rw [ih]; exact h0) (by decide) (by decide), ih]
  induction d with
  | zero => rfl
  | succ d ih => rw [← Nat.add_assoc, mGo, mPs_j (h.it (i + d)) (by rw [key d]; exact h0) hq h35, ih]
theorem Rel.may {f : hMem} {v : Nat → Int32} {lv c : Nat} (h : Rel f v lv c) : bMay f c = true ↔ (¬ v 5 = 0 ∧ 0 < cntN v 0 c) := by
  have hc := h.sw.c20
  unfold bMay
  rw [decide_eq_true_iff, h.sc (k := 6) (by decide) (by decide), h.cn (Nat.le_refl c), mCnt_n, nI_gt0 (by have := cntN_le (v := v) (x := 0) (n := c); omega)]
  rfl
theorem fc_j {f : hMem} {v : Nat → Int32} {lv c j m : Nat} (h : Rel f v lv c) (hj : j < c) (hm : m ≤ 600) (h3 : m = 600 ∨ bMay (It lv f m) c = false) :
    (mGo v lv c m (14 + 7 * j + 2) = 1 ↔ mGo v lv c (mLN v lv c j 600 0) (14 + 7 * j + 2) = 1) ∧
    (mGo v lv c (mLN v lv c j 600 0) (14 + 7 * j + 2) = 1 → mGo v lv c m (14 + 7 * j + 1) = mGo v lv c (mLN v lv c j 600 0) (14 + 7 * j + 1) ∧
      (v (14 + 7 * j + 2) = 0 → mGo v lv c m (14 + 7 * j + 6) - v 0 + 1 = nI (mLN v lv c j 600 0))) := by
  obtain ⟨n0, n1, n2, n3⟩ := mLN_sp (v := v) (lv := lv) (c := c) (j := j) 600 0
  generalize mLN v lv c j 600 0 = N at *
  have i10 : ¬ (0 : Int32) = 1 := by decide
  by_cases hs : mGo v lv c N (14 + 7 * j + 2) = 0
  · have hN : N = 600 := by rcases n3 with e | e; omega; exact absurd hs e
    have hms : mGo v lv c m (14 + 7 * j + 2) = 0 := by
      by_cases e : m = N
      · rw [e]; exact hs
      · exact n2 m (by omega) (by omega)
    rw [hs, hms]
    exact ⟨Iff.rfl, fun e => absurd e i10⟩
  · by_cases hmN : N ≤ m
    · obtain ⟨d, rfl⟩ := Nat.exists_eq_add_of_le hmN
      refine ⟨by rw [mGo_j h hs (by decide) (by decide)], fun h1 => ⟨mGo_j h hs (by decide) (by decide) d, fun h0 => ?_⟩⟩
      rw [mGo_j h hs (by decide) (by decide)]
      cases N with
      | zero => exact absurd h0 hs
      | succ k =>
        have hk := n2 k (by omega) (by omega)
        have hl := mPs_l (h.it k) hj hk h1
        rw [mGo, hl.1, mGo_0, Int32.add_comm (v 0), Int32.add_sub_cancel, nI_1]
    · have hms : mGo v lv c m (14 + 7 * j + 2) = 0 := n2 m (by omega) (by omega)
      have hb : bMay (It lv f m) c = false := by rcases h3 with e | e; omega; exact e
      have h5 : v 5 = 0 := by
        by_cases e : v 5 = 0
        · exact e
        · have := (h.it m).may.mpr ⟨by rw [mGo_5]; exact e, cntN_p hj hms⟩
          rw [hb] at this; cases this
      have hn1 : ¬ mGo v lv c N (14 + 7 * j + 2) = 1 := by
        intro h1
        cases N with
        | zero => omega
        | succ k =>
          have hk := n2 k (by omega) (by omega)
          have hl := (mPs_l (h.it k) hj hk h1).2
          rw [mGo_5, h5] at hl
          exact i10 hl
      rw [hms]
      exact ⟨⟨fun e => absurd e i10, fun e => absurd e hn1⟩, fun e => absurd e hn1⟩
/-- the class's forecast tells what the model's does -/
theorem Rel.fc {f : hMem} {v : Nat → Int32} {lv c j : Nat} (h : Rel f v lv c) (hj : j < c) :
    (if fcS lv c 600 f (3 + j) 3 = 1 then (if v (14 + 7 * j + 2) = 1 then 0 else fcS lv c 600 f (3 + j) 7 - v 0 + 1) else -6) = mLm v lv c j ∧
    (if fcS lv c 600 f (3 + j) 3 = 1 then fcS lv c 600 f (3 + j) 2 else -6) = mLf v lv c j ∧ SW (fcS lv c 600 f) lv c := by
  obtain ⟨m, m1, m2, m3, -⟩ := fcS_it (lv := lv) (c := c) 600 f
  have hr := h.it m
  obtain ⟨k1, k2⟩ := fc_j h hj m1 m3
  obtain ⟨n0, n1, n2, n3⟩ := mLN_sp (v := v) (lv := lv) (c := c) (j := j) 600 0
  refine ⟨?_, ?_, ?_⟩
  · rw [m2, (hr.ra hj).st]
    unfold mLm
    by_cases e : mGo v lv c (mLN v lv c j 600 0) (14 + 7 * j + 2) = 1
    · rw [if_pos e, if_pos (k1.mpr e)]
      by_cases e0 : v (14 + 7 * j + 2) = 0
      · rw [if_neg (by rw [e0]; decide), (hr.ra hj).wh (by rw [k1.mpr e]; decide)]
        exact (k2 e).2 e0
      · have hN : mLN v lv c j 600 0 = 0 := by
          by_cases ez : mLN v lv c j 600 0 = 0
          · exact ez
          · exact absurd (n2 0 (by omega) (by omega)) e0
        rw [hN] at e ⊢
        rw [if_pos (show v (14 + 7 * j + 2) = 1 from e)]
        rfl
    · rw [if_neg e, if_neg (fun q => e (k1.mp q))]
  · rw [m2, (hr.ra hj).st, (hr.ra hj).fu]
    unfold mLf
    by_cases e : mGo v lv c (mLN v lv c j 600 0) (14 + 7 * j + 2) = 1
    · rw [if_pos e, if_pos (k1.mpr e), (k2 e).1]
    · rw [if_neg e, if_neg (fun q => e (k1.mp q))]
  · rw [m2]; exact hr.sw
