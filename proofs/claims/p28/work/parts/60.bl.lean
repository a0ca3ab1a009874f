/-! the best level -/
theorem mRf_0 {v : Nat → Int32} {c : Nat} {x fu y : Int32} (hc : c ≤ 20) (h : mRf v c x fu y = 0) : mOn v y c = none := by
  unfold mRf at h
  by_cases e : ¬ oI (mOn v y c) = -6
  · rw [if_pos e] at h; exact absurd h (by decide)
  · exact oI_6 (Classical.not_not.mp e) (fun j hj => by have := (mOn_lt hj).1; omega)
theorem mLm_n {v : Nat → Int32} {lv c j : Nat} : mLm v lv c j = -6 ∨ ∃ n, n ≤ 600 ∧ mLm v lv c j = nI n := by
  have hsp := mLN_sp (v := v) (lv := lv) (c := c) (j := j) 600 0
  unfold mLm
  by_cases e : mGo v lv c (mLN v lv c j 600 0) (14 + 7 * j + 2) = 1
  · exact Or.inr ⟨mLN v lv c j 600 0, by omega, if_pos e⟩
  · exact Or.inl (if_neg e)
theorem Rel.bl {F A0 : hMem} {v : Nat → Int32} {lv c u : Nat} {x : Int32} (h : Rel F v lv c) (hA : KN A0) (hc : c < 20) (hx : hk x) (hu : u ≤ 9999) {k : Nat} (hk : k ≤ lv) :
    (blI F A0 lv c x (nI u) k).1 = oI (mBe v lv c x (nI u) k).1 ∧ ((mBe v lv c x (nI u) k).1 = none → (blI F A0 lv c x (nI u) k).2.1 = 601) ∧ ∀ b, (mBe v lv c x (nI u) k).1 = some b → nI (blI F A0 lv c x (nI u) k).2.1 = (mBe v lv c x (nI u) k).2 := by
  induction k with
  | zero => exact ⟨rfl, fun _ => rfl, fun b hb => by cases hb⟩
  | succ k ih =>
    obtain ⟨i1, i2, i3⟩ := ih (by omega)
    obtain ⟨a1, a2, a3⟩ := bl_inv (lv := lv) (fuel := nI u) h.sw hA hc hx k
    have hr := h.rf (show k < lv by omega) x (nI u)
    by_cases h0 : mRf v c x (nI u) (nI k) = 0
    · have hf := mRf_0 (by omega) h0
      have hg := (h.copy a1).en hc hx hu (show k < lv by omega) hf
      have hm := sTo_m (B := (blI F A0 lv c x (nI u) k).2.1 - 1) hg (Nat.lt_succ_self c) (by omega) mEn_c.2.2.1
      have e1 : (blR F (blI F A0 lv c x (nI u) k).2.2 lv c (blI F A0 lv c x (nI u) k).2.1 x (nI u) k).1 = if 0 ≤ mBm v lv c x (nI u) k ∧ mBm v lv c x (nI u) k ≤ nI ((blI F A0 lv c x (nI u) k).2.1 - 1) then mBm v lv c x (nI u) k else -6 := hm
      have hcond : (0 ≤ mBm v lv c x (nI u) k ∧ mBm v lv c x (nI u) k ≤ nI ((blI F A0 lv c x (nI u) k).2.1 - 1)) ↔
          (mRf v c x (nI u) (nI k) = 0 ∧ 0 ≤ mBm v lv c x (nI u) k ∧ ((mBe v lv c x (nI u) k).1 = none ∨ mBm v lv c x (nI u) k < (mBe v lv c x (nI u) k).2)) := by
        rcases mLm_n (v := mEn v c x (nI u) (nI k)) (lv := lv) (c := c + 1) (j := c) with e | ⟨n, hn, e⟩
        · have e : mBm v lv c x (nI u) k = -6 := e
          rw [e]
          exact ⟨fun q => absurd q.1 (by decide), fun q => absurd q.2.1 (by decide)⟩
        · have e : mBm v lv c x (nI u) k = nI n := e
          have hp : (0 : Int32) ≤ nI n := (nI_leI (a := 0) (by decide) (by omega)).mpr (Nat.zero_le _)
          rw [e]
          cases hb : (mBe v lv c x (nI u) k).1 with
          | none =>
            refine ⟨fun _ => ⟨h0, hp, Or.inl rfl⟩, fun _ => ⟨hp, ?_⟩⟩
            rw [i2 hb]
            exact (nI_leI (by omega) (by decide)).mpr hn
          | some b =>
            have hl := i3 b hb
            rw [← hl]
            refine ⟨fun q => ⟨h0, hp, Or.inr ((nI_ltI (by omega) (by omega)).mpr ?_)⟩, fun q => ⟨hp, (nI_leI (by omega) (by omega)).mpr ?_⟩⟩
            · have := (nI_leI (by omega) (by omega)).mp q.2; omega
            · rcases q.2.2 with q | q
              · cases q
              · have := (nI_ltI (by omega) (by omega)).mp q; omega
      by_cases hq : 0 ≤ mBm v lv c x (nI u) k ∧ mBm v lv c x (nI u) k ≤ nI ((blI F A0 lv c x (nI u) k).2.1 - 1)
      · rw [if_pos hq] at e1
        have hne : ¬ (blR F (blI F A0 lv c x (nI u) k).2.2 lv c (blI F A0 lv c x (nI u) k).2.1 x (nI u) k).1 = -6 := by
          rw [e1]; intro e; rw [e] at hq; exact absurd hq.1 (by decide)
        rw [bl_y (hr.trans h0) hne, mBe_t (hcond.mp hq), e1]
        refine ⟨rfl, fun e => (by cases e), fun b hb => ?_⟩
        rcases mLm_n (v := mEn v c x (nI u) (nI k)) (lv := lv) (c := c + 1) (j := c) with e | ⟨n, hn, e⟩
        · have e : mBm v lv c x (nI u) k = -6 := e
          rw [e] at hq
          exact absurd hq.1 (by decide)
        · have e : mBm v lv c x (nI u) k = nI n := e
          rw [e]
          show nI (nI n).toNatClampNeg = nI n
          rw [nI_clamp (by omega)]
      · rw [if_neg hq] at e1
        rw [bl_n (hr.trans h0) e1, mBe_f (fun q => hq (hcond.mpr q))]
        exact ⟨i1, i2, i3⟩
    · rw [bl_x (fun q => h0 (hr.symm.trans q)), mBe_f (fun q => h0 q.1)]
      exact ⟨i1, i2, i3⟩
