/-! the parsers: a strip with its semicolon; the whole text -/
theorem nI_59 : nI 59 = 59 := by decide
theorem sExp59 {t g : Nat → Int32} {L p : Nat} (h : pOk g L p) (ht : txO t L) (hp : p ≤ L) : (mTk t L p 59 = true → pOk (sExp t g 59) L (p + 1)) ∧ (mTk t L p 59 = false → pBad (sExp t g 59) p) := by
  have o := sExp_ok (q := 59) h ht hp (by decide) (by decide)
  rw [nI_59] at o
  exact o
theorem sRd_at {t s : Nat → Int32} {L p : Nat} (h : pOk s L p) (hL : L ≤ 80) (hp : p < L) : sRd t s = (decide (sExp t (sSt2 t (sSt1 t s)) 59 3 = -6), sExp t (sSt2 t (sSt1 t s)) 59) := by
  have hg : s 3 = -6 ∧ s 2 < s 1 := ⟨h.2.2, by rw [h.1, h.2.1]; exact (nI_ltI (by omega) (by omega)).mpr hp⟩
  unfold sRd
  rw [if_pos hg]
theorem sRd_end {t s : Nat → Int32} {L p : Nat} (h : pOk s L p) (hL : L ≤ 80) (hp : p ≤ L) (he : L ≤ p) : sRd t s = (false, s) := by
  unfold sRd
  rw [if_neg]
  intro q
  have q2 := q.2
  rw [h.1, h.2.1] at q2
  have := (nI_ltI (by omega) (by omega)).mp q2
  omega
theorem sRd_ok {t s : Nat → Int32} {L p : Nat} (h : pOk s L p) (ht : txO t L) (hp : p < L) :
    ((mSb t L p).1 = true → mTk t L (mSb t L p).2 59 = true → (sRd t s).1 = true ∧ pOk (sRd t s).2 L ((mSb t L p).2 + 1)) ∧
    (¬ ((mSb t L p).1 = true ∧ mTk t L (mSb t L p).2 59 = true) → (sRd t s).1 = false ∧ pBad (sRd t s).2 (mSb t L p).2) := by
  have hL := ht.1
  have hs := strip_ok h ht hp
  have hb := mSb_p (s := t) (L := L) (p := p) (by omega)
  rw [sRd_at h hL hp]
  generalize hz : mSb t L p = z at *
  obtain ⟨z1, z2⟩ := z
  dsimp only at *
  have bad : pBad (sExp t (sSt2 t (sSt1 t s)) 59) z2 → decide (sExp t (sSt2 t (sSt1 t s)) 59 3 = -6) = false ∧ pBad (sExp t (sSt2 t (sSt1 t s)) 59) z2 := fun q =>
    ⟨decide_eq_false (fun e => nI_n6 (by omega) (q.symm.trans e)), q⟩
  by_cases e : z1 = true
  · have o := sExp59 (hs.1 e) ht hb.2.1
    refine ⟨fun _ e2 => ⟨decide_eq_true (o.1 e2).2.2, o.1 e2⟩, fun q => ?_⟩
    have e2 : mTk t L z2 59 = false := (Bool.not_eq_true _).mp (fun x => q ⟨e, x⟩)
    exact bad (o.2 e2)
  · exact ⟨fun q => absurd q e, fun _ => bad ((hs.2 ((Bool.not_eq_true _).mp e)).exp (by omega))⟩
