/-! fuel is somewhere, what is gone has gone before now: kept by a minute, by minutes, by entering, by calling -/
theorem i_swap {a b c d : Int32} : (a + b) + (c + d) = (a + c) + (b + d) := by
  rw [Int32.add_assoc, Int32.add_assoc, ← Int32.add_assoc b, Int32.add_comm b c, Int32.add_assoc c]
theorem i_shift {n a b c s s1 s2 x y : Int32} (h : n = a + b + c + s) (h1 : s1 + x = s) (h2 : s2 + y = s1) : n = (a + x) + b + (c + y) + s2 := by
  subst h1
  subst h2
  rw [h]
  first | ac_rfl | grind
theorem i_shif3 {n a b c s s1 s2 s3 x y w : Int32} (h : n = a + b + c + s) (h1 : s1 + x = s) (h2 : s2 + y = s1) (h3 : s3 + w = s2) : n = (a + x) + (b + w) + (c + y) + s3 := by
  subst h1
  subst h2
  subst h3
  rw [h]
  first | ac_rfl | grind
theorem sm_add {a b d : Nat → Int32} {n : Nat} (h : ∀ j, j < n → a j + b j = d j) : sm a n + sm b n = sm d n := by
  induction n with
  | zero => exact Int32.add_zero 0
  | succ n ih => rw [sm, sm, sm, i_swap, ih (fun j hj => h j (by omega)), h n (Nat.lt_succ_self n)]
def sF (v : Nat → Int32) (j : Nat) : Int32 := if v (14 + 7 * j + 2) = 0 then v (14 + 7 * j + 1) else 0
def bQ (v : Nat → Int32) (j : Nat) : Int32 := if v (14 + 7 * j + 2) = 0 then mBq v j else 0
theorem sF_e {v w : Nat → Int32} {n : Nat} (h : ∀ j, j < n → w (14 + 7 * j + 2) = v (14 + 7 * j + 2) ∧ w (14 + 7 * j + 1) = v (14 + 7 * j + 1)) : sm (sF w) n = sm (sF v) n :=
  sm_eq (fun j hj => by unfold sF; rw [(h j hj).1, (h j hj).2])
theorem mBs_2 {v : Nat → Int32} {c j : Nat} : mBs v c (14 + 7 * j + 2) = v (14 + 7 * j + 2) := by rw [(mBs_at c).2.2 j 2 (by decide), if_neg (by omega), if_neg (by omega)]
theorem sF_bs {v : Nat → Int32} {c : Nat} : sm (sF (mBs v c)) c + sm (bQ v) c = sm (sF v) c := sm_add (fun j hj => by
  unfold sF bQ
  rw [mBs_2]
  by_cases h0 : v (14 + 7 * j + 2) = 0
  · rw [if_pos h0, if_pos h0, if_pos h0, (mBs_at c).2.2 j 1 (by decide), if_pos ⟨hj, h0, rfl⟩, Int32.sub_add_cancel]
  · rw [if_neg h0, if_neg h0, if_neg h0, Int32.add_zero])
theorem sF_ds {v : Nat → Int32} {c : Nat} : sm (sF (mDs v c)) c + sm (dG v) c = sm (sF v) c := sm_add (fun j hj => by
  have e1 : mDs v c (14 + 7 * j + 1) = v (14 + 7 * j + 1) := by rw [(mDs_at c).2.2 j 1 (by decide), if_neg (by omega), if_neg (by omega)]
  by_cases hd : dD v j = true
  · have e2 : mDs v c (14 + 7 * j + 2) = 2 := by rw [(mDs_at c).2.2 j 2 (by decide), if_pos ⟨⟨hj, hd⟩, rfl⟩]
    unfold sF dG
    rw [e1, e2, if_neg (by decide), if_pos hd, if_pos (dD_0 hd), Int32.zero_add]
  · have e2 : mDs v c (14 + 7 * j + 2) = v (14 + 7 * j + 2) := by rw [(mDs_at c).2.2 j 2 (by decide), if_neg (fun x => hd x.1.2), if_neg (fun x => hd x.1.2)]
    unfold sF dG
    rw [e1, e2, if_neg hd, Int32.add_zero])
theorem v3_o {w : Nat → Int32} {j i : Nat} (h4 : i ≠ 4) (h11 : i ≠ 11) (h2 : i ≠ 14 + 7 * j + 2) (h6 : i ≠ 14 + 7 * j + 6) : mV3 w (some j) i = w i := by
  rw [mV3_s, upd_n h4, mLeave_1, upd_n h11, upd_n h6, upd_n h2]
theorem v3_2 {w : Nat → Int32} {j : Nat} : mV3 w (some j) (14 + 7 * j + 2) = 1 := by
  rw [mV3_s, upd_n (by omega), mLeave_1, upd_n (by omega), upd_n (by omega), upd_s]
theorem v3_6 {w : Nat → Int32} {j : Nat} : mV3 w (some j) (14 + 7 * j + 6) = w 0 := by
  rw [mV3_s, upd_n (by omega), mLeave_1, upd_n (by omega), upd_s]
theorem v3_11 {w : Nat → Int32} {j : Nat} : mV3 w (some j) 11 = w 11 + w (14 + 7 * j + 1) := by
  rw [mV3_s, upd_n (by omega), mLeave_1, upd_s, upd_n (by omega), upd_n (by omega), upd_n (by omega), upd_n (by omega)]
theorem sF_v3 {w : Nat → Int32} {c j : Nat} (hj : j < c) (h0 : w (14 + 7 * j + 2) = 0) : sm (sF (mV3 w (some j))) c + w (14 + 7 * j + 1) = sm (sF w) c := by
  have e := sm_one (a := sF w) (b := sF (mV3 w (some j))) hj (fun i hi hne => by
    unfold sF
    rw [v3_o (by omega) (by omega) (by omega) (by omega), v3_o (by omega) (by omega) (by omega) (by omega)]) (by unfold sF; rw [v3_2]; exact if_neg (by decide))
  rw [e]
  unfold sF
  rw [if_pos h0]
theorem mPs_o {v : Nat → Int32} {lv c i : Nat} (h0 : i ≠ 0) (h8 : i ≠ 8) (h : ∀ j, i ≠ 14 + 7 * j + 3 ∧ i ≠ 14 + 7 * j + 5) : mPs v lv c i = mV3 (mB2 v c) (mPa v c) i := by
  rw [mPs_e, upd_n h0, mKs_o h8 h]
theorem mB2_o {v : Nat → Int32} {c i : Nat} (h4 : i ≠ 4) : mB2 v c i = mDs (mBs v c) c i := by
  rw [mB2_e, upd_n h4]
  rfl
theorem sF_b2 {v : Nat → Int32} {c : Nat} : sm (sF (mB2 v c)) c = sm (sF (mDs (mBs v c) c)) c := sF_e (fun j hj => ⟨mB2_o (by omega), mB2_o (by omega)⟩)
theorem sF_ps {v : Nat → Int32} {lv c : Nat} : sm (sF (mPs v lv c)) c = sm (sF (mV3 (mB2 v c) (mPa v c))) c := sF_e (fun j hj => ⟨mPs_o (by omega) (by omega) (by omega), mPs_o (by omega) (by omega) (by omega)⟩)
def QF (v : Nat → Int32) (c : Nat) : Prop := v 9 = v 10 + v 11 + v 12 + sm (sF v) c
def QT (v : Nat → Int32) (c T : Nat) : Prop := ∃ t, t ≤ T ∧ v 0 = nI t ∧ ∀ j, j < c → ¬ v (14 + 7 * j + 2) = 0 → ∃ e, e < t ∧ v (14 + 7 * j + 6) = nI e
def QQ (v : Nat → Int32) (c T : Nat) : Prop := QF v c ∧ QT v c T
theorem mBs_10 {v : Nat → Int32} {c : Nat} : mBs v c 10 = v 10 + sm (bQ v) c := (mBs_at c).2.1
theorem mB2_lo {v : Nat → Int32} {c k : Nat} (h : k < 14) (h4 : k ≠ 4) (h10 : k ≠ 10) (h12 : k ≠ 12) : mB2 v c k = v k := (mB2_o h4).trans (mBu_lo h h10 h12)
theorem mB2_10 {v : Nat → Int32} {c : Nat} : mB2 v c 10 = v 10 + sm (bQ v) c := by rw [mB2_o (by decide), (mDs_at c).1 10 (by decide) (by decide), mBs_10]
theorem mB2_12 {v : Nat → Int32} {c : Nat} : mB2 v c 12 = v 12 + sm (dG (mBs v c)) c := by rw [mB2_o (by decide), (mDs_at c).2.1, (mBs_at c).1 12 (by decide) (by decide)]
theorem QF.ps {f : hMem} {v : Nat → Int32} {lv c : Nat} (h : Rel f v lv c) (hq : QF v c) : QF (mPs v lv c) c := by
  unfold QF at hq ⊢
  rw [mPs_o (i := 9) (by decide) (by decide) (by omega), mPs_o (i := 10) (by decide) (by decide) (by omega), mPs_o (i := 11) (by decide) (by decide) (by omega), mPs_o (i := 12) (by decide) (by decide) (by omega), sF_ps]
  cases hp : mPa v c with
  | none =>
    show mB2 v c 9 = mB2 v c 10 + mB2 v c 11 + mB2 v c 12 + sm (sF (mB2 v c)) c
    rw [mB2_lo (k := 9) (by decide) (by decide) (by decide) (by decide), mB2_lo (k := 11) (by decide) (by decide) (by decide) (by decide), mB2_10, mB2_12, sF_b2]
    exact i_shift hq sF_bs sF_ds
  | some j =>
    have hb := mPa_0 h hp
    rw [v3_o (by decide) (by decide) (by omega) (by omega), v3_o (by decide) (by decide) (by omega) (by omega), v3_o (i := 12) (by decide) (by decide) (by omega) (by omega), v3_11,
      mB2_lo (k := 9) (by decide) (by decide) (by decide) (by decide), mB2_lo (k := 11) (by decide) (by decide) (by decide) (by decide), mB2_10, mB2_12]
    refine i_shif3 hq sF_bs sF_ds ?_
    rw [← sF_b2]
    exact sF_v3 hb.1 hb.2.1
theorem mB2_2 {v : Nat → Int32} {c j : Nat} (h0 : v (14 + 7 * j + 2) = 0) : mB2 v c (14 + 7 * j + 2) = 0 ∨ (mB2 v c (14 + 7 * j + 2) = 2 ∧ mB2 v c (14 + 7 * j + 6) = v 0) := by
  rw [mB2_o (by omega), mB2_o (by omega), (mDs_at c).2.2 j 2 (by decide), (mDs_at c).2.2 j 6 (by decide), mBs_2, h0]
  by_cases hd : j < c ∧ dD (mBs v c) j = true
  · rw [if_pos ⟨hd, rfl⟩, if_neg (by omega), if_pos ⟨hd, rfl⟩, (mBs_at c).1 0 (by decide) (by decide)]
    exact Or.inr ⟨rfl, rfl⟩
  · rw [if_neg (fun q => hd q.1), if_neg (fun q => hd q.1)]
    exact Or.inl rfl
theorem mPs_6 {v : Nat → Int32} {lv c j : Nat} (h0 : v (14 + 7 * j + 2) = 0) (h1 : ¬ mPs v lv c (14 + 7 * j + 2) = 0) : mPs v lv c (14 + 7 * j + 6) = v 0 := by
  rw [mPs_o (by omega) (by omega) (by omega)] at h1 ⊢
  cases hp : mPa v c with
  | none =>
    rw [hp] at h1
    rcases mB2_2 (c := c) h0 with e | e
    · exact absurd e h1
    · exact e.2
  | some b =>
    rw [hp] at h1
    by_cases eb : b = j
    · subst eb
      rw [v3_6, mB2_lo (by decide) (by decide) (by decide) (by decide)]
    · rw [v3_o (by omega) (by omega) (by omega) (by omega)] at h1 ⊢
      rcases mB2_2 (c := c) h0 with e | e
      · exact absurd e h1
      · exact e.2
theorem QT.ps {f : hMem} {v : Nat → Int32} {lv c T : Nat} (h : Rel f v lv c) (hq : QT v c T) : QT (mPs v lv c) c (T + 1) := by
  obtain ⟨t, h1, h2, h3⟩ := hq
  refine ⟨t + 1, by omega, by rw [mPs_0, h2, nI_1], fun j hj hs => ?_⟩
  by_cases h0 : v (14 + 7 * j + 2) = 0
  · exact ⟨t, by omega, by rw [mPs_6 h0 hs, h2]⟩
  · obtain ⟨e, e1, e2⟩ := h3 j hj h0
    exact ⟨e, by omega, by rw [mPs_j h h0 (by decide) (by decide), e2]⟩
theorem QQ.ps {f : hMem} {v : Nat → Int32} {lv c T : Nat} (h : Rel f v lv c) (hq : QQ v c T) : QQ (mPs v lv c) c (T + 1) := ⟨hq.1.ps h, hq.2.ps h⟩
theorem QQ.go {f : hMem} {v : Nat → Int32} {lv c T : Nat} (h : Rel f v lv c) (hq : QQ v c T) (k : Nat) : QQ (mGo v lv c k) c (T + k) := by
  induction k with
  | zero => exact hq
  | succ k ih => exact ih.ps (h.it k)
theorem QQ.up {v : Nat → Int32} {c T s : Nat} {x : Int32} (hq : QQ v c T) (h : s ≠ 0 ∧ s ≠ 9 ∧ s ≠ 10 ∧ s ≠ 11 ∧ s ≠ 12) (h2 : ∀ j, s ≠ 14 + 7 * j + 1 ∧ s ≠ 14 + 7 * j + 2 ∧ s ≠ 14 + 7 * j + 6) : QQ (upd v s x) c T := by
  refine ⟨?_, ?_⟩
  · unfold QQ QF at *
    rw [upd_n (by omega), upd_n (by omega), upd_n (by omega), upd_n (by omega), sF_e (v := v) (fun j hj => ⟨upd_n (fun q => (h2 j).2.1 q.symm), upd_n (fun q => (h2 j).1 q.symm)⟩)]
    exact hq.1
  · obtain ⟨t, h1, h3, h4⟩ := hq.2
    refine ⟨t, h1, by rw [upd_n (by omega)]; exact h3, fun j hj hs => ?_⟩
    rw [upd_n (fun q => (h2 j).2.1 q.symm)] at hs
    obtain ⟨e, e1, e2⟩ := h4 j hj hs
    exact ⟨e, e1, by rw [upd_n (fun q => (h2 j).2.2 q.symm)]; exact e2⟩
theorem QQ.le {v : Nat → Int32} {c T T2 : Nat} (hq : QQ v c T) (h : T ≤ T2) : QQ v c T2 := by
  obtain ⟨t, h1, h3⟩ := hq.2
  exact ⟨hq.1, t, by omega, h3⟩
theorem QQ.en {v : Nat → Int32} {c T : Nat} {x fu y : Int32} (hq : QQ v c T) : QQ (mEn v c x fu y) (c + 1) T := by
  have C := mEn_c (v := v) (c := c) (x := x) (fu := fu) (y := y)
  have ot : ∀ k q, k < c → q < 7 → mEn v c x fu y (14 + 7 * k + q) = v (14 + 7 * k + q) := fun k q hk hq => mEn_k (by omega) (by omega)
  refine ⟨?_, ?_⟩
  · have hf := hq.1
    unfold QF at hf ⊢
    rw [mEn_9, mEn_lo (i := 10) (by decide) (by decide), mEn_lo (i := 11) (by decide) (by decide), mEn_lo (i := 12) (by decide) (by decide), sm, sF_e (v := v) (fun j hj => ⟨ot j 2 hj (by decide), ot j 1 hj (by decide)⟩), hf]
    rw [show sF (mEn v c x fu y) c = fu from by unfold sF; rw [C.2.2.1, if_pos rfl, C.2.1], Int32.add_assoc]
  · obtain ⟨t, h1, h3, h4⟩ := hq.2
    refine ⟨t, h1, by rw [mEn_lo (by decide) (by decide)]; exact h3, fun j hj hs => ?_⟩
    by_cases e : j = c
    · subst e
      exact absurd C.2.2.1 hs
    · rw [ot j 2 (by omega) (by decide)] at hs
      obtain ⟨e, e1, e2⟩ := h4 j (by omega) hs
      exact ⟨e, e1, by rw [ot j 6 (by omega) (by decide)]; exact e2⟩
theorem QQ_0 {v : Nat → Int32} (h : v 9 = 0 ∧ v 10 = 0 ∧ v 11 = 0 ∧ v 12 = 0 ∧ v 0 = 0) : QQ v 0 0 := by
  refine ⟨?_, 0, Nat.le_refl _, h.2.2.2.2.trans nI_0.symm, fun j hj => absurd hj (Nat.not_lt_zero _)⟩
  unfold QF
  rw [h.1, h.2.1, h.2.2.1, h.2.2.2.1]
  rfl
