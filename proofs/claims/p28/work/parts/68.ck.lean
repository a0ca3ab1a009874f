/-! the checksum -/
theorem Rel.ck {M : hMem} {v : Nat → Int32} {lv c q : Nat} (h : Rel (getS M 1) v lv c) (hA : KN (getS M 24)) (hq : M 47 1 = nI q) : hCk M (putS M 24 (fcS lv c 600 (aC M c))) lv c = mCk v q lv c := by
  have e1 : getS (putS M 24 (fcS lv c 600 (aC M c))) 1 = getS M 1 := getS_put (Or.inl (by decide))
  have hN : Rel (getS (putS M 24 (fcS lv c 600 (aC M c))) 1) v lv c := by rw [e1]; exact h
  have k1 : ∀ k, k ≤ 18 → ck1 M c k = mC1 v q c k := by
    intro k hk
    induction k with
    | zero => rfl
    | succ k ih => rw [ck1, mC1, ih (by omega), h.tell hq (by omega)]
  have kA : ∀ i H w, i < c → w ≤ 8 → ckA (putS M 24 (fcS lv c 600 (aC M c))) i H w = mC2 v i H w := by
    intro i H w hi hw
    induction w with
    | zero => rfl
    | succ w ih => rw [ckA, mC2, ih (by omega), hN.craft hi (by omega)]
  have k2 : ∀ H j, j ≤ c → ck2 (putS M 24 (fcS lv c 600 (aC M c))) H j = mC3 v lv c H j := by
    intro H j hj
    induction j with
    | zero => rfl
    | succ j ih => rw [ck2, mC3, ih (by omega), kA _ _ _ (by omega) (by decide), hN.why (by omega), h.fm hA (by omega)]
  have k3 : ∀ H k, k ≤ lv → ck3 (putS M 24 (fcS lv c 600 (aC M c))) H k = mC4 v c H k := by
    intro H k hk
    induction k with
    | zero => rfl
    | succ k ih => rw [ck3, mC4, ih (by omega), hN.lv' (by omega)]
  unfold hCk mCk
  rw [k1 18 (by decide), k2 _ c (Nat.le_refl c), k3 _ lv (Nat.le_refl lv)]
