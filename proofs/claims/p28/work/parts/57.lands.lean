/-! who lands; when nobody may -/
def dead (v : Nat → Int32) (c : Nat) : Prop := v 5 = 0 ∨ ∀ j, j < c → ¬ v (14 + 7 * j + 2) = 0
theorem mPa_h {f : hMem} {v : Nat → Int32} {lv c j : Nat} (h : Rel f v lv c) (hd : mPa v c = some j) : j < c ∧ v (14 + 7 * j + 2) = 0 ∧ v 5 = 1 := by
  have h1 := mPa_0 h hd
  refine ⟨h1.1, ?_, h1.2.2⟩
  by_cases e : v (14 + 7 * j + 2) = 0
  · exact e
  · exact (mB2_j e (show 2 < 7 by decide)).symm.trans h1.2.1
theorem dead_n {f : hMem} {v : Nat → Int32} {lv c : Nat} (h : Rel f v lv c) (hd : dead v c) : mPa v c = none := by
  cases hq : mPa v c with
  | none => rfl
  | some j =>
    have h1 := mPa_h h hq
    rcases hd with e | e
    · rw [h1.2.2] at e; exact absurd e (by decide)
    · exact absurd h1.2.1 (e j h1.1)
theorem dead_s {f : hMem} {v : Nat → Int32} {lv c : Nat} (h : Rel f v lv c) (hd : dead v c) : dead (mPs v lv c) c := by
  rcases hd with e | e
  · exact Or.inl (mPs_5.trans e)
  · exact Or.inr (fun j hj => by rw [mPs_j h (e j hj) (by decide) (by decide)]; exact e j hj)
theorem Rel.ded {f : hMem} {v : Nat → Int32} {lv c : Nat} (h : Rel f v lv c) (hb : bMay f c = false) : dead v c := by
  by_cases e : v 5 = 0
  · exact Or.inl e
  · refine Or.inr (fun j hj e0 => ?_)
    have := h.may.mpr ⟨e, cntN_p hj e0⟩
    rw [hb] at this; cases this
theorem mLx_d {f : hMem} {v : Nat → Int32} {lv c : Nat} (h : Rel f v lv c) : ∀ (k n : Nat) (l : Int32), dead (mGo v lv c n) c → mLx v lv c k n l = none
  | 0, _, _, _ => rfl
  | k + 1, n, l, hd => by
    rw [mLx, dead_n (h.it n) hd]
    exact mLx_d h k (n + 1) _ (dead_s (h.it n) hd)
theorem Rel.la {f0 : hMem} {v : Nat → Int32} {lv c : Nat} (h : Rel f0 v lv c) (x : Int32) : ∀ (k n : Nat) (b : Int32) (f : hMem), Rel f (mGo v lv c n) lv c → (laS lv c x k b f).1 = oI (mLx v lv c k n (x - b))
  | 0, _, _, _, _ => rfl
  | k + 1, n, b, f, hf => by
    cases hb : bMay f c with
    | false =>
      rw [laS_f hb, mLx_d h (k + 1) n _ (hf.ded hb)]
      rfl
    | true =>
      have h1 := hf.ps
      have hc := h.sw.c20
      rw [mLx]
      cases hq : mPa (mGo v lv c n) c with
      | none =>
        rw [laS_n hb (h1.1.trans (by rw [hq]; rfl)), Rel.la h x k (n + 1) b _ h1.2]
        simp only
        rw [Int32.sub_zero]
      | some j =>
        have hj := mPa_lt hq
        have hne : ¬ (sPass f lv).1 = -6 := fun e => by
          have := oI_6 (h1.1.symm.trans e) (fun i hi => by have := mPa_lt hi; omega)
          rw [hq] at this; cases this
        by_cases e : b = x
        · rw [laS_e hb hne e, h1.1, hq]
          simp only
          rw [if_pos (by rw [e, Int32.sub_self])]
        · rw [laS_s hb hne e, Rel.la h x k (n + 1) (b + 1) _ h1.2]
          simp only
          rw [if_neg (fun q => e (by
            have := Int32.sub_add_cancel x b
            rw [q, Int32.zero_add] at this
            exact this))]
          rw [show x - b - 1 = x - (b + 1) by rw [Int32.sub_eq_add_neg (x - b) 1, Int32.sub_eq_add_neg x b, Int32.sub_eq_add_neg x (b + 1), Int32.neg_add, Int32.sub_eq_add_neg (-b) 1, Int32.add_assoc]]
theorem Rel.lands {f : hMem} {v : Nat → Int32} {lv c : Nat} (h : Rel f v lv c) (x : Int32) : (laS lv c x 600 0 f).1 = oI (mLx v lv c 600 0 x) := by
  have := h.la x 600 0 0 f h
  rw [Int32.sub_zero] at this
  exact this
theorem Rel.copy {f A : hMem} {v : Nat → Int32} {lv c : Nat} (h : Rel f v lv c) (hA : KN A) : Rel (sCopy A f c) v lv c := by
  refine ⟨h.wv, SWcopy hA h.sw, fun k h4 h5 => ?_, fun j hj => ⟨?_, ?_, ?_, fun h0 => ⟨?_, ?_, ?_⟩, fun h0 => ?_⟩, fun i hi => ?_⟩
  · rw [sCopy_0 (by omega)]; exact h.sc h4 h5
  · rw [sCopy_c hj (by decide)]; exact (h.ra hj).kd
  · rw [sCopy_c hj (by decide)]; exact (h.ra hj).fu
  · rw [sCopy_c hj (by decide)]; exact (h.ra hj).st
  · rw [sCopy_c hj (by decide)]; exact (h.ra hj).le h0
  · rw [sCopy_c hj (by decide)]; exact (h.ra hj).pl h0
  · rw [sCopy_c hj (by decide)]; exact (h.ra hj).ca h0
  · rw [sCopy_c hj (by decide)]; exact (h.ra hj).wh h0
  · rw [sCopy_2 hi]; exact h.ho hi
theorem Rel.rf {f : hMem} {v : Nat → Int32} {lv c i : Nat} (h : Rel f v lv c) (hi : i < lv) (x fu : Int32) : sRef f c x fu (nI i) = mRf v c x fu (nI i) := by
  have hc := h.sw.c20
  unfold sRef mRf
  rw [h.fr hi, h.cn (Nat.le_refl c), h.sc (k := 5) (by decide) (by decide), show rs 5 = 7 from rfl]
  cases hm : mOn v (nI i) c with
  | none =>
    rw [if_neg (show ¬ decide ((none : Option Nat) = none) = false by simp), if_neg (show ¬ ¬ oI none = -6 from fun q => q rfl)]
    by_cases e : fu ≤ kRes x
    · rw [if_pos e, if_pos e]
    · rw [if_neg e, if_neg e]
      by_cases e2 : mCnt v 0 c < v 7
      · rw [if_pos e2, if_neg (Int32.not_le.mpr e2)]
      · rw [if_neg e2, if_pos (Int32.not_lt.mp e2)]
  | some j =>
    have hj := mOn_lt hm
    rw [if_pos (by simp), if_pos]
    intro e
    have := oI_6 e (fun k hk => by cases hk; omega)
    cases this
