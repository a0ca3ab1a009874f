/-! strips carried out one after another: both worlds -/
theorem putRow_self {M : hMem} {i : Nat} : putRow M i (M i) = M := by
  funext b q
  unfold putRow
  split
  · next h => rw [h]
  · rfl
theorem ruS_ok {L lv : Nat} {t : Nat → Int32} (ht : txO t L) : ∀ (k p i : Nat) (M : hMem) (v tt : Nat → Int32) (c : Nat), Rel (getS M 1) v lv c → pOk (M 213) L p → p ≤ L → L - p ≤ k → M 214 = t → (mTx t L (k + 1) p).1 = true →
    (ruS lv k i M c).1 = nI (mRu t L lv (k + 1) p tt v c i).1 ∧ Rel (getS (ruS lv k i M c).2 1) (mRu t L lv (k + 1) p tt v c i).2.1 lv (mRu t L lv (k + 1) p tt v c i).2.2.1 ∧ (ruS lv k i M c).2 213 1 = nI L ∧
    ∀ a b, (a = 0 ∨ 24 ≤ a) → a ≠ 213 → (ruS lv k i M c).2 a b = M a b
  | 0, p, i, M, v, tt, c, h, hp, hpl, hk, h14, hx => by
    rw [ruS, mRu, if_pos (show L ≤ p by omega)]
    exact ⟨rfl, h, hp.1, fun _ _ _ _ => rfl⟩
  | k + 1, p, i, M, v, tt, c, h, hp, hpl, hk, h14, hx => by
    have hL := ht.1
    rw [mTx] at hx
    rw [mRu]
    by_cases e : L ≤ p
    · have r := sRd_end hp hL hpl e (t := t)
      rw [if_pos e, ruS_f (by rw [h14, r]), h14, r, putRow_self]
      exact ⟨rfl, h, hp.1, fun _ _ _ _ => rfl⟩
    · have hp2 : p < L := by omega
      rw [if_neg e] at hx
      rw [if_neg e]
      have r := sRd_ok hp ht hp2
      have hb := mSb_p (s := t) (L := L) (p := p) (by omega)
      have gg := sRd_g (tt := tt) hp ht hp2
      generalize hz : mSb t L p = z at *
      obtain ⟨z1, z2⟩ := z
      dsimp only at *
      by_cases a : z1 = false
      · rw [if_pos a] at hx; exact absurd hx Bool.false_ne_true
      · rw [if_neg a] at hx
        have a2 := (Bool.not_eq_false _).mp a
        by_cases b : mTk t L z2 59 = false
        · rw [if_pos b] at hx; exact absurd hx Bool.false_ne_true
        · rw [if_neg b] at hx
          have b2 := (Bool.not_eq_false _).mp b
          have r1 := r.1 a2 b2
          have g1 := gg a2
          have h59 := mTk_p n59_1 b2
          have hb3 := hb.2.2 a2
          have eM : (sRd (M 214) (M 213)).1 = true := by rw [h14]; exact r1.1
          have e13 : putRow M 213 (sRd (M 214) (M 213)).2 213 = (sRd t (M 213)).2 := by rw [h14]; funext q; exact pRs
          have co := cO_ok (M := putRow M 213 (sRd (M 214) (M 213)).2) (T := mSk t L tt p) (by rw [getS_row]; exact h) (by rw [e13]; exact g1)
          have off : ∀ x y, (x = 0 ∨ 24 ≤ x) → x ≠ 213 → (cO (putRow M 213 (sRd (M 214) (M 213)).2) lv c).2.1 x y = M x y := fun x y hx1 hx2 => (cO_off hx1).trans (pRo hx2)
          have row : (cO (putRow M 213 (sRd (M 214) (M 213)).2) lv c).2.1 213 = (sRd t (M 213)).2 := by
            rw [← e13]
            funext q
            exact cO_off (Or.inr (by decide))
          by_cases ok : (mCo v lv c (mSk t L tt p)).1 = true
          · rw [if_pos ok, ruS_s eM (co.2.2.1 ok), co.2.1]
            have ih := ruS_ok ht k (z2 + 1) (i + 1) _ (mCo v lv c (mSk t L tt p)).2.1 (mSk t L tt p) (mCo v lv c (mSk t L tt p)).2.2 co.1 (by rw [row]; exact r1.2) (by omega) (by omega) (by rw [← h14]; funext q; exact off 214 q (Or.inr (by decide)) (by decide)) hx
            exact ⟨ih.1, ih.2.1, ih.2.2.1, fun x y h1 h2 => (ih.2.2.2 x y h1 h2).trans (off x y h1 h2)⟩
          · rw [if_neg ok, ruS_e eM (co.2.2.2 ((Bool.not_eq_true _).mp ok))]
            exact ⟨rfl, co.1, (congrFun row 1).trans r1.2.1, off⟩
