/-! minutes together, one by one, and foreseen -/
theorem mCnt_sx {v : Nat → Int32} {x : Int32} {n : Nat} : mCnt v x n = sm (fun j => if v (14 + 7 * j + 2) = x then 1 else 0) n := by
  induction n with
  | zero => rfl
  | succ n ih =>
    rw [mCnt, sm, ih]
    by_cases e : v (14 + 7 * n + 2) = x
    · rw [if_pos e, if_pos e]
    · rw [if_neg e, if_neg e]
theorem cnt_ps {f : hMem} {v : Nat → Int32} {lv c : Nat} (h : Rel f v lv c) : mCnt (mPs v lv c) 1 c = mCnt v 1 c + oB (mPa v c) := by
  have st : ∀ j, j < c → mPa v c ≠ some j → (mPs v lv c (14 + 7 * j + 2) = 1 ↔ v (14 + 7 * j + 2) = 1) := fun j hj hn => by
    by_cases h0 : v (14 + 7 * j + 2) = 0
    · rw [mPs_q h hj h0, h0]
      exact ⟨fun e => absurd e hn, fun e => absurd e (by decide)⟩
    · rw [mPs_j h h0 (by decide) (by decide)]
  rw [mCnt_sx, mCnt_sx]
  cases hp : mPa v c with
  | none =>
    rw [show oB none = 0 from rfl, Int32.add_zero]
    refine sm_eq (fun j hj => ?_)
    have := st j hj (by rw [hp]; exact fun e => by cases e)
    simp only [this]
  | some j0 =>
    have hh := mPa_h h hp
    rw [sm_one (b := fun j => if v (14 + 7 * j + 2) = 1 then 1 else 0) hh.1 (fun j hj hne => ?_) (if_neg (by rw [hh.2.1]; decide))]
    · rw [if_pos ((mPs_q h hh.1 hh.2.1).mpr hp)]
      rfl
    · have := st j hj (by rw [hp]; exact fun e => hne (Option.some.inj e).symm)
      simp only [this]
theorem cnt_go {f : hMem} {v : Nat → Int32} {lv c : Nat} (h : Rel f v lv c) : ∀ k, mCnt (mGo v lv c k) 1 c = mCnt v 1 c + mGc v lv c k
  | 0 => (Int32.add_zero _).symm
  | k + 1 => by rw [mGo, cnt_ps (h.it k), cnt_go h k, mGc, Int32.add_assoc]
theorem oB_n {q : Option Nat} : oB q = nI 0 ∨ oB q = nI 1 := by
  cases q with
  | none => exact Or.inl rfl
  | some j => exact Or.inr rfl
theorem mGc_n {v : Nat → Int32} {lv c : Nat} : ∀ n, ∃ k, k ≤ n ∧ mGc v lv c n = nI k
  | 0 => ⟨0, Nat.le_refl _, rfl⟩
  | n + 1 => by
    obtain ⟨k, hk, e⟩ := mGc_n (v := v) (lv := lv) (c := c) n
    rw [mGc, e]
    rcases oB_n (q := mPa (mGo v lv c n) c) with q | q
    · exact ⟨k, by omega, by rw [q, nI_add]; rfl⟩
    · exact ⟨k + 1, by omega, by rw [q, nI_add]⟩
theorem mGc_1 {v : Nat → Int32} {lv c : Nat} : mGc v lv c 1 = nI 0 ∨ mGc v lv c 1 = nI 1 := by
  rw [show mGc v lv c 1 = 0 + oB (mPa v c) from rfl, Int32.zero_add]
  exact oB_n
theorem i_sub2 {a b x : Int32} : a - b - x = a - (b + x) := by
  rw [Int32.sub_eq_add_neg (a - b) x, Int32.sub_eq_add_neg a b, Int32.sub_eq_add_neg a (b + x), Int32.neg_add, Int32.sub_eq_add_neg (-b) x, Int32.add_assoc]
theorem one_s {v : Nat → Int32} {lv c i : Nat} {A : Int32} : A - mGc v lv c i - mGc (mGo v lv c i) lv c 1 = A - mGc v lv c (i + 1) := by
  rw [show mGc (mGo v lv c i) lv c 1 = 0 + oB (mPa (mGo v lv c i) c) from rfl, Int32.zero_add, i_sub2]
  rfl
/-- what is foreseen for one aircraft, and what comes -/
theorem fore3 {f : hMem} {v : Nat → Int32} {lv c a m : Nat} (h : Rel f v lv c) (ha : a < c) (hm : m ≤ 600) :
    (∃ n, n ≤ 600 ∧ mLm v lv c a = nI n ∧ (∃ u, u ≤ 9999 ∧ mLf v lv c a = nI u) ∧ (n ≤ m → mGo v lv c m (14 + 7 * a + 2) = 1 ∧ mGo v lv c m (14 + 7 * a + 1) = mLf v lv c a) ∧ (m < n → ¬ mGo v lv c m (14 + 7 * a + 2) = 1)) ∨
      (mLm v lv c a = -6 ∧ mLf v lv c a = -6 ∧ ¬ mGo v lv c m (14 + 7 * a + 2) = 1) := by
  obtain ⟨n0, n1, n2, n3⟩ := mLN_sp (v := v) (lv := lv) (c := c) (j := a) 600 0
  unfold mLm mLf
  generalize mLN v lv c a 600 0 = n at *
  by_cases e : mGo v lv c n (14 + 7 * a + 2) = 1
  · left
    rw [if_pos e, if_pos e]
    have ne0 : ¬ mGo v lv c n (14 + 7 * a + 2) = 0 := by rw [e]; decide
    obtain ⟨u, hu, eu⟩ := ((h.it n).wv.ac ha).fu
    refine ⟨n, by omega, rfl, ⟨u, hu, eu⟩, fun hn => ?_, fun hn => ?_⟩
    · obtain ⟨d, rfl⟩ : ∃ d, m = n + d := ⟨m - n, by omega⟩
      exact ⟨(mGo_j h ne0 (by decide) (by decide) d).trans e, mGo_j (q := 1) h ne0 (by decide) (by decide) d⟩
    · rw [n2 m (Nat.zero_le _) hn]; decide
  · right
    rw [if_neg e, if_neg e]
    refine ⟨rfl, rfl, ?_⟩
    by_cases hn : m < n
    · rw [n2 m (Nat.zero_le _) hn]; decide
    · by_cases e0 : mGo v lv c n (14 + 7 * a + 2) = 0
      · have : m = n := by
          rcases n3 with q | q
          · omega
          · exact absurd e0 q
        rw [this]; exact e
      · obtain ⟨d, rfl⟩ : ∃ d, m = n + d := ⟨m - n, by omega⟩
        rw [mGo_j h e0 (by decide) (by decide) d]; exact e
theorem mLx_f {v : Nat → Int32} {lv c : Nat} : ∀ (f n i : Nat), n ≤ i → i < n + f → mPa (mGo v lv c i) c ≠ none → ∃ i2 j, n ≤ i2 ∧ i2 ≤ i ∧ mPa (mGo v lv c i2) c = some j ∧ mLx v lv c f n 0 = some j
  | 0, n, i, h1, h2, _ => by omega
  | f + 1, n, i, h1, h2, h3 => by
    rw [mLx]
    cases hp : mPa (mGo v lv c n) c with
    | some a => exact ⟨n, a, Nat.le_refl _, h1, hp, if_pos rfl⟩
    | none =>
      have hne : n ≠ i := fun e => by subst e; exact h3 hp
      obtain ⟨i2, j, a1, a2, a3, a4⟩ := mLx_f f (n + 1) i (by omega) (by omega) h3
      exact ⟨i2, j, by omega, a2, a3, a4⟩
theorem mGc_z0 {v : Nat → Int32} {lv c : Nat} : ∀ m, (∀ i, i < m → mPa (mGo v lv c i) c = none) → mGc v lv c m = 0
  | 0, _ => rfl
  | m + 1, h => by rw [mGc, mGc_z0 m (fun i hi => h i (by omega)), h m (Nat.lt_succ_self m)]; rfl
/-- the next one that lands has landed, if any has -/
theorem first_ok {f : hMem} {v : Nat → Int32} {lv c m : Nat} (h : Rel f v lv c) (hm : m ≤ 600) (hs : ¬ mGc v lv c m = 0) : ∃ j, j < c ∧ mLx v lv c 600 0 0 = some j ∧ mGo v lv c m (14 + 7 * j + 2) = 1 := by
  have ex : ∃ i, i < m ∧ mPa (mGo v lv c i) c ≠ none := Classical.byContradiction (fun q => hs (mGc_z0 m (fun i hi => Classical.byContradiction (fun e => q ⟨i, hi, e⟩))))
  obtain ⟨i, hi, hp⟩ := ex
  obtain ⟨i2, j, a1, a2, a3, a4⟩ := mLx_f (v := v) (lv := lv) (c := c) 600 0 i (Nat.zero_le _) (by omega) hp
  have hh := mPa_h (h.it i2) a3
  have e1 : mGo v lv c (i2 + 1) (14 + 7 * j + 2) = 1 := (mPs_q (h.it i2) hh.1 hh.2.1).mpr a3
  obtain ⟨d, rfl⟩ : ∃ d, m = i2 + 1 + d := ⟨m - (i2 + 1), by omega⟩
  exact ⟨j, hh.1, a4, (mGo_j h (by rw [e1]; decide) (by decide) (by decide) d).trans e1⟩
theorem t_chain {l : Launch} {z : hZt} {M : hMem} {R : hRef} {v : gRow} {lv c q : Nat} {H : Nat → gRow} {K : Nat → Option gRow} (h : PI M R v lv c q H K) : ∀ m, ∃ (Mf : Nat → hMem) (Rf : Nat → hRef), Mf 0 = M ∧ Rf 0 = R ∧
    (∀ i, i ≤ m → ∃ q H, PI (Mf i) (Rf i) (mGo v lv c i) lv c q H K) ∧ ∀ i, i < m → hCt l z m_X6_pass [.ref (z.1 + 0), .int (nI 1)] 215 (Mf i) (Rf i) 215 (some (.int (mGc (mGo v lv c i) lv c 1))) (Mf (i + 1)) (Rf (i + 1))
  | 0 => ⟨fun _ => M, fun _ => R, rfl, rfl, fun i hi => ⟨q, H, by rw [show i = 0 by omega]; exact h⟩, fun i hi => absurd hi (Nat.not_lt_zero _)⟩
  | m + 1 => by
    obtain ⟨Mf, Rf, e1, e2, e3, e4⟩ := t_chain (l := l) (z := z) h m
    obtain ⟨q1, H1, h1⟩ := e3 m (Nat.le_refl m)
    obtain ⟨M2, R2, k2, h2⟩ := t_pass (l := l) (z := z) h1 (i := 1) (by decide) (by decide)
    refine ⟨fun i => if i ≤ m then Mf i else M2, fun i => if i ≤ m then Rf i else R2, ?_, ?_, fun i hi => ?_, fun i hi => ?_⟩
    · exact (if_pos (Nat.zero_le _)).trans e1
    · exact (if_pos (Nat.zero_le _)).trans e2
    · by_cases hm : i ≤ m
      · simp only [if_pos hm]; exact e3 i hm
      · simp only [if_neg hm]
        rw [show i = m + 1 by omega]
        exact ⟨_, _, h2⟩
    · by_cases hm : i < m
      · simp only [if_pos (show i ≤ m by omega), if_pos (show i + 1 ≤ m by omega)]; exact e4 i hm
      · simp only [if_pos (show i ≤ m by omega), if_neg (show ¬ i + 1 ≤ m by omega)]
        rw [show i = m by omega]
        exact k2
