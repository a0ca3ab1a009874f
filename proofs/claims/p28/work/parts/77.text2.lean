/-! the parsers: the whole text -/
theorem n59_1 : ¬ (59 : Int32) = -1 := by decide
theorem ffS_ok {t : Nat → Int32} {L : Nat} (ht : txO t L) : ∀ (k p : Nat) (s : Nat → Int32), pOk s L p → p ≤ L → L - p ≤ k → ((mTx t L (k + 1) p).1 = true → ffS t k s 3 = -6) ∧ ((mTx t L (k + 1) p).1 = false → ffS t k s 3 = nI (mTx t L (k + 1) p).2)
  | 0, p, s, h, hp, hk => by
    rw [mTx, if_pos (show L ≤ p by omega)]
    exact ⟨fun _ => h.2.2, fun q => (by cases q)⟩
  | k + 1, p, s, h, hp, hk => by
    have hL := ht.1
    rw [mTx, ffS]
    by_cases e : L ≤ p
    · rw [if_pos e, sRd_end h hL hp e, if_neg Bool.false_ne_true]
      exact ⟨fun _ => h.2.2, fun q => (by cases q)⟩
    · have r := sRd_ok h ht (by omega)
      have hb := mSb_p (s := t) (L := L) (p := p) (by omega)
      rw [if_neg e]
      generalize hz : mSb t L p = z at *
      generalize sRd t s = y at *
      obtain ⟨z1, z2⟩ := z
      obtain ⟨y1, y2⟩ := y
      dsimp only at *
      by_cases a : z1 = false
      · have r2 := r.2 (fun q => by rw [a] at q; exact Bool.false_ne_true q.1)
        rw [if_pos a, r2.1, if_neg Bool.false_ne_true]
        exact ⟨fun q => absurd q Bool.false_ne_true, fun _ => r2.2⟩
      · have a2 := (Bool.not_eq_false _).mp a
        rw [if_neg a]
        by_cases b : mTk t L z2 59 = false
        · have r2 := r.2 (fun q => by rw [b] at q; exact Bool.false_ne_true q.2)
          rw [if_pos b, r2.1, if_neg Bool.false_ne_true]
          exact ⟨fun q => absurd q Bool.false_ne_true, fun _ => r2.2⟩
        · have b2 := (Bool.not_eq_false _).mp b
          have r1 := r.1 a2 b2
          have h59 := mTk_p n59_1 b2
          rw [if_neg b, if_pos r1.1]
          have := hb.2.2 a2
          exact ffS_ok ht k _ _ r1.2 (by omega) (by omega)
theorem sRes_ok {s : Nat → Int32} {L : Nat} (h : s 1 = nI L) : pOk (sRes s) L 0 := ⟨(upd_n (by decide)).trans ((upd_n (by decide)).trans h), (upd_n (by decide)).trans (upd_s.trans nI_0.symm), upd_s⟩
/-- the place of the first fault -/
theorem sFF_ok {t s : Nat → Int32} {L : Nat} (ht : txO t L) (h : s 1 = nI L) : sFF t s 3 = if (mTx t L 81 0).1 = true then -6 else nI (mTx t L 81 0).2 := by
  have r := ffS_ok ht 80 0 _ (sRes_ok h) (Nat.zero_le _) (by have := ht.1; omega)
  unfold sFF
  split
  · next e => exact r.1 e
  · next e => exact r.2 ((Bool.not_eq_true _).mp e)
theorem k1_u {s : Nat → Int32} {k : Nat} {x : Int32} (hk : k ≠ 1) : upd s k x 1 = s 1 := upd_n hk.symm
theorem k1_f {s : Nat → Int32} {x : Int32} : sFail s x 1 = s 1 := by
  unfold sFail
  split
  · exact k1_u (by decide)
  · rfl
theorem k1_e {t s : Nat → Int32} {x : Int32} : sExp t s x 1 = s 1 := by
  unfold sExp
  split
  · exact k1_u (by decide)
  · exact k1_f
theorem k1_rn {t : Nat → Int32} : ∀ (k : Nat) (s : Nat → Int32) (x : Int32), (rnL t k s x).2 1 = s 1
  | 0, _, _ => rfl
  | k + 1, s, x => by
    rw [rnL]
    split
    · rw [k1_rn k]; exact k1_u (by decide)
    · rfl
theorem k1_n {t s : Nat → Int32} {a b : Int32} : (sNm t s a b).2 1 = s 1 := by
  unfold sNm rnE
  split
  · show sFail _ _ 1 = s 1
    rw [k1_f, k1_rn]
  · exact k1_rn _ _ _
theorem k1_k {t s : Nat → Int32} : sKd t s 1 = s 1 := by
  unfold sKd
  split
  · exact k1_u (by decide)
  · rw [k1_u (by decide), k1_f]
theorem k1_en {t s : Nat → Int32} : sEn t s 1 = s 1 := by
  unfold sEn sEn3 sEn2 sEn1
  rw [k1_u (by decide), k1_n, k1_e, k1_u (by decide), k1_n, k1_u (by decide), k1_k]
theorem k1_s1 {t s : Nat → Int32} : sSt1 t s 1 = s 1 := by
  unfold sSt1
  rw [k1_u (by decide), k1_u (by decide)]
theorem k1_s2 {t s : Nat → Int32} : sSt2 t s 1 = s 1 := by
  unfold sSt2
  (repeat' split)
  · exact k1_en
  · rw [k1_u (by decide), k1_n]
  · rw [k1_u (by decide), k1_n]
  · rfl
  · exact k1_f
theorem k1_rd {t s : Nat → Int32} : (sRd t s).2 1 = s 1 := by
  unfold sRd
  split
  · show sExp _ _ _ 1 = s 1
    rw [k1_e, k1_s2, k1_s1]
  · rfl
theorem k1_ff {t : Nat → Int32} : ∀ (k : Nat) (s : Nat → Int32), ffS t k s 1 = s 1
  | 0, _ => rfl
  | k + 1, s => by
    rw [ffS]
    split
    · rw [k1_ff k, k1_rd]
    · exact k1_rd
theorem k1_res {s : Nat → Int32} : sRes s 1 = s 1 := by
  unfold sRes
  rw [k1_u (by decide), k1_u (by decide)]
theorem sFF_1 {t s : Nat → Int32} : sFF t s 1 = s 1 := by
  unfold sFF
  rw [k1_ff, k1_res]
