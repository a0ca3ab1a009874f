/-! the parsers: a strip without its semicolon -/
theorem sSt1_ok {t s : Nat → Int32} {L p : Nat} (h : pOk s L p) (ht : txO t L) (hp : p < L) : pOk (sSt1 t s) L (p + 1) ∧ sSt1 t s 4 = mHe t L p := by
  have hL := ht.1
  have e : upd s 4 (sPk t s) 2 = nI p := (upd_n (by decide)).trans h.2.1
  unfold sSt1
  rw [e, nI_1]
  refine ⟨(h.up (k := 4) (by decide)).to, ?_⟩
  rw [upd_n (by decide), upd_s, sPk_n hL h.1 h.2.1 (by omega), if_pos hp]
  unfold mHe
  rw [if_pos hp]
theorem sKd_ok {t g : Nat → Int32} {L p : Nat} (h : pOk g L p) (ht : txO t L) (hp : p ≤ L) : (¬ mKd t L p = -6 → pOk (sKd t g) L (p + 1)) ∧ (mKd t L p = -6 → pBad (sKd t g) p) := by
  have hL := ht.1
  have i1 := sPk_is (q := 108) ht h.1 h.2.1 (by omega) (by decide) (by decide)
  have i2 := sPk_is (q := 109) ht h.1 h.2.1 (by omega) (by decide) (by decide)
  have i3 := sPk_is (q := 104) ht h.1 h.2.1 (by omega) (by decide) (by decide)
  have hk : mKd t L p = -6 ↔ ¬ (sPk t g = 108 ∨ sPk t g = 109 ∨ sPk t g = 104) := by
    rw [show sPk t g = 108 ↔ mHe t L p = 108 from i1, show sPk t g = 109 ↔ mHe t L p = 109 from i2, show sPk t g = 104 ↔ mHe t L p = 104 from i3]
    unfold mKd
    by_cases a : mHe t L p = 108
    · rw [if_pos a]; exact ⟨fun q => absurd q (by decide), fun q => absurd (Or.inl a) q⟩
    · rw [if_neg a]
      by_cases b : mHe t L p = 109
      · rw [if_pos b]; exact ⟨fun q => absurd q (by decide), fun q => absurd (Or.inr (Or.inl b)) q⟩
      · rw [if_neg b]
        by_cases c : mHe t L p = 104
        · rw [if_pos c]; exact ⟨fun q => absurd q (by decide), fun q => absurd (Or.inr (Or.inr c)) q⟩
        · rw [if_neg c]; exact ⟨fun _ q => q.elim a (fun q => q.elim b c), fun _ => rfl⟩
  unfold sKd
  by_cases e : sPk t g = 108 ∨ sPk t g = 109 ∨ sPk t g = 104
  · rw [if_pos e, h.2.1, nI_1]
    exact ⟨fun _ => h.to, fun q => absurd e (hk.mp q)⟩
  · rw [if_neg e]
    refine ⟨fun q => absurd (hk.mpr e) q, fun _ => ?_⟩
    rw [h.2.1]
    exact (h.fail (q := p)).up (by decide)
theorem sExp_ok {t g : Nat → Int32} {L p q : Nat} (h : pOk g L p) (ht : txO t L) (hp : p ≤ L) (hq : 1 ≤ q) (hq2 : q < 128) : (mTk t L p (nI q) = true → pOk (sExp t g (nI q)) L (p + 1)) ∧ (mTk t L p (nI q) = false → pBad (sExp t g (nI q)) p) := by
  have hL := ht.1
  have i1 := sPk_is (q := q) ht h.1 h.2.1 (by omega) hq hq2
  unfold sExp mTk
  by_cases e : mHe t L p = nI q
  · rw [if_pos (i1.mpr e), h.2.1, nI_1]
    exact ⟨fun _ => h.to, fun x => absurd e (of_decide_eq_false x)⟩
  · rw [if_neg (fun x => e (i1.mp x)), h.2.1]
    exact ⟨fun x => absurd (of_decide_eq_true x) e, fun _ => h.fail⟩
