/-! minutes to a landing; the best level -/
theorem mPs_q {f : hMem} {v : Nat → Int32} {lv c j : Nat} (h : Rel f v lv c) (hj : j < c) (h0 : v (14 + 7 * j + 2) = 0) : mPs v lv c (14 + 7 * j + 2) = 1 ↔ mPa v c = some j := by
  have e : mPs v lv c (14 + 7 * j + 2) = mV3 (mB2 v c) (mPa v c) (14 + 7 * j + 2) := by rw [mPs_e, upd_n (by omega), mKs_o (by omega) (fun q => by omega)]
  have e2 : mB2 v c (14 + 7 * j + 2) = 0 ∨ mB2 v c (14 + 7 * j + 2) = 2 := by
    have e3 : mBs v c (14 + 7 * j + 2) = v (14 + 7 * j + 2) := by rw [(mBs_at c).2.2 j 2 (by decide), if_neg (by omega), if_neg (by omega)]
    rw [mB2_e, upd_n (by omega)]
    show mDs (mBs v c) c (14 + 7 * j + 2) = 0 ∨ mDs (mBs v c) c (14 + 7 * j + 2) = 2
    rw [(mDs_at c).2.2 j 2 (by decide), e3, h0]
    split
    · exact Or.inr rfl
    · rw [if_neg (by omega)]; exact Or.inl rfl
  have e1 : ¬ mB2 v c (14 + 7 * j + 2) = 1 := fun q => by rcases e2 with e2 | e2 <;> (rw [e2] at q; exact absurd q (by decide))
  rw [e]
  cases hq : mPa v c with
  | none => exact ⟨fun q => absurd q e1, fun q => by cases q⟩
  | some b =>
    rw [mV3_s, upd_n (by omega), mLeave_1, upd_n (by omega), upd_n (by omega)]
    by_cases eb : b = j
    · subst eb; rw [upd_s]; exact ⟨fun _ => rfl, fun _ => rfl⟩
    · rw [upd_n (by omega)]
      exact ⟨fun q => absurd q e1, fun q => absurd (Option.some.inj q) eb⟩
theorem dead_it {f : hMem} {v : Nat → Int32} {lv c i : Nat} (h : Rel f v lv c) (hd : dead (mGo v lv c i) c) (d : Nat) : dead (mGo v lv c (i + d)) c := by
  induction d with
  | zero => exact hd
  | succ d ih => exact dead_s (h.it (i + d)) ih
/-- it lands no more -/
theorem sTo_no {f0 : hMem} {w : Nat → Int32} {lv c a : Nat} (h : Rel f0 w lv c) (ha : a < c) : ∀ (B i : Nat) (f : hMem), Rel f (mGo w lv c i) lv c → ¬ mGo w lv c i (14 + 7 * a + 2) = 0 → (sTo lv c (nI a) B i f).1 = -6
  | 0, _, _, _, _ => rfl
  | B + 1, i, f, hf, hs => by
    rw [sTo]
    by_cases hb : bMay f c = true
    · have hp := hf.ps
      rw [if_pos hb, if_neg]
      · exact sTo_no h ha B (i + 1) _ hp.2 (by rw [mGo, mPs_j hf hs (by decide) (by decide)]; exact hs)
      · rw [hp.1]
        intro e
        have hc := h.sw.c20
        cases hq : mPa (mGo w lv c i) c with
        | none =>
          rw [hq] at e
          exact absurd (oI_6 (q := some a) e.symm (fun k hk => by cases hk; omega)) (by simp)
        | some b =>
          rw [hq] at e
          have hb2 := mPa_h hf hq
          have e3 : b = a := (nI_eq (by omega) (by omega)).mp e
          rw [e3] at hb2
          exact hs hb2.2.1
    · rw [if_neg hb]
theorem sTo_e {f0 : hMem} {w : Nat → Int32} {lv c a : Nat} (h : Rel f0 w lv c) (ha : a < c) : ∀ (B i : Nat) (f : hMem), Rel f (mGo w lv c i) lv c → i + B ≤ 600 → mGo w lv c i (14 + 7 * a + 2) = 0 →
    (sTo lv c (nI a) B i f).1 = if mLN w lv c a 600 0 ≤ i + B ∧ mGo w lv c (mLN w lv c a 600 0) (14 + 7 * a + 2) = 1 then nI (mLN w lv c a 600 0) else -6
  | B, i, f, hf, hB, hs => by
    have hc := h.sw.c20
    have hsp := mLN_sp (v := w) (lv := lv) (c := c) (j := a) 600 0
    have i01 : ¬ (0 : Int32) = 1 := by decide
    -- the first minute in which it does not hold is later, or there is none
    have hN : mGo w lv c (mLN w lv c a 600 0) (14 + 7 * a + 2) = 1 → i < mLN w lv c a 600 0 := by
      intro e
      by_cases hle : mLN w lv c a 600 0 ≤ i
      · obtain ⟨d, hd⟩ := Nat.exists_eq_add_of_le hle
        rw [hd, mGo_j h (by rw [e]; decide) (by decide) (by decide), e] at hs
        exact absurd hs.symm i01
      · omega
    cases B with
    | zero =>
      rw [if_neg (fun q => by have := hN q.2; omega)]
      rfl
    | succ B =>
      rw [sTo]
      by_cases hb : bMay f c = true
      · have hp := hf.ps
        have hq := mPs_q hf ha hs
        rw [if_pos hb, hp.1]
        by_cases hl : mPa (mGo w lv c i) c = some a
        · have h1 : mGo w lv c (i + 1) (14 + 7 * a + 2) = 1 := hq.mpr hl
          have hn : mLN w lv c a 600 0 = i + 1 := by
            by_cases h3 : i + 1 < mLN w lv c a 600 0
            · rw [hsp.2.2.1 (i + 1) (by omega) h3] at h1
              exact absurd h1 i01
            · by_cases h4 : mLN w lv c a 600 0 ≤ i
              · exfalso
                rcases hsp.2.2.2 with e | e
                · omega
                · obtain ⟨d, hd⟩ := Nat.exists_eq_add_of_le h4
                  have hs2 := hs
                  rw [hd, mGo_j h e (by decide) (by decide)] at hs2
                  exact e hs2
              · omega
          rw [if_pos (by rw [hl]; rfl), hn, if_pos ⟨by omega, h1⟩]
        · have hne : ¬ oI (mPa (mGo w lv c i) c) = nI a := by
            intro e
            cases hm : mPa (mGo w lv c i) c with
            | none =>
              rw [hm] at e
              exact absurd (oI_6 (q := some a) e.symm (fun k hk => by cases hk; omega)) (by simp)
            | some b =>
              rw [hm] at e
              have := mPa_lt hm
              rw [(nI_eq (by omega) (by omega)).mp e] at hm
              exact hl hm
          rw [if_neg hne]
          have hs1 : ¬ mGo w lv c (i + 1) (14 + 7 * a + 2) = 1 := fun e => hl (hq.mp e)
          by_cases h0 : mGo w lv c (i + 1) (14 + 7 * a + 2) = 0
          · rw [sTo_e h ha B (i + 1) _ hp.2 (by omega) h0, show i + 1 + B = i + (B + 1) by omega]
          · rw [sTo_no h ha B (i + 1) _ hp.2 h0, if_neg]
            rintro ⟨-, e⟩
            have hlt := hN e
            have h3 : mLN w lv c a 600 0 ≤ i + 1 := by
              by_cases h4 : i + 1 < mLN w lv c a 600 0
              · exact absurd (hsp.2.2.1 (i + 1) (by omega) h4) h0
              · omega
            rw [show mLN w lv c a 600 0 = i + 1 by omega] at e
            exact hs1 e
      · rw [if_neg hb, if_neg]
        rintro ⟨-, e⟩
        have hlt := hN e
        have hd := hf.ded ((Bool.not_eq_true _).mp hb)
        obtain ⟨k, hk⟩ : ∃ k, mLN w lv c a 600 0 = k + 1 := ⟨mLN w lv c a 600 0 - 1, by omega⟩
        obtain ⟨d, hd2⟩ := Nat.exists_eq_add_of_le (show i ≤ k by omega)
        have hk0 := hsp.2.2.1 k (by omega) (by omega)
        rw [hk] at e
        have := (mPs_q (h.it k) ha hk0).mp e
        rw [hd2, dead_n (h.it (i + d)) (dead_it h hd d)] at this
        cases this
termination_by B => B
/-- from the beginning: what the model's minutes are, if they are no more than B -/
theorem sTo_m {w : Nat → Int32} {lv c a B : Nat} {f : hMem} (h : Rel f w lv c) (ha : a < c) (hB : B ≤ 600) (hs : w (14 + 7 * a + 2) = 0) :
    (sTo lv c (nI a) B 0 f).1 = if 0 ≤ mLm w lv c a ∧ mLm w lv c a ≤ nI B then mLm w lv c a else -6 := by
  have hsp := mLN_sp (v := w) (lv := lv) (c := c) (j := a) 600 0
  rw [sTo_e h ha B 0 f h (by omega) hs]
  unfold mLm
  by_cases e : mGo w lv c (mLN w lv c a 600 0) (14 + 7 * a + 2) = 1
  · rw [if_pos e]
    have hle := nI_leI (a := mLN w lv c a 600 0) (b := B) (by omega) (by omega)
    have h0 : (0 : Int32) ≤ nI (mLN w lv c a 600 0) := (nI_leI (a := 0) (by decide) (by omega)).mpr (Nat.zero_le _)
    by_cases e2 : mLN w lv c a 600 0 ≤ 0 + B
    · rw [if_pos ⟨e2, e⟩, if_pos ⟨h0, hle.mpr (by omega)⟩]
    · rw [if_neg (fun q => e2 q.1), if_neg (fun q => e2 (by have := hle.mp q.2; omega))]
  · rw [if_neg e, if_neg (fun q => e q.2), if_neg (fun q => absurd q.1 (by decide))]
