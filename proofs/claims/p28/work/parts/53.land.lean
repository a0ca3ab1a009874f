/-! one lands -/
theorem Rel.leave {f : hMem} {v : Nat → Int32} {lv c j : Nat} (h : Rel f v lv c) (hj : j < c) (h0 : v (14 + 7 * j + 2) = 0) :
    Rel (sLeave f j 1) (upd (upd v (14 + 7 * j + 2) 1) (14 + 7 * j + 6) (v 0)) lv c := by
  have hl16 := h.sw.l16
  have hl := lvN_e h.wv hj h0
  have eT : f 0 9 = v 0 := h.sc (k := 9) (by decide) (by decide)
  have e4 : f (3 + j) 4 = nI (lvN v j) := ((h.ra hj).le h0).trans hl.1
  have eF : sLeave f j 1 = up2 (up2 (up2 f 2 (lvN v j) (-6)) (3 + j) 3 1) (3 + j) 7 (v 0) := by
    unfold sLeave
    rw [e4, sSetH_n (by omega), eT]
  have lo : ∀ i, i < 14 → upd (upd v (14 + 7 * j + 2) 1) (14 + 7 * j + 6) (v 0) i = v i := fun i hi => by rw [upd_n (by omega), upd_n (by omega)]
  have ot : ∀ k q, q < 7 → ¬ (k = j ∧ (q = 2 ∨ q = 6)) → upd (upd v (14 + 7 * j + 2) 1) (14 + 7 * j + 6) (v 0) (14 + 7 * k + q) = v (14 + 7 * k + q) := fun k q hq hn => by rw [upd_n (by omega), upd_n (by omega)]
  have w2 : upd (upd v (14 + 7 * j + 2) 1) (14 + 7 * j + 6) (v 0) (14 + 7 * j + 2) = 1 := by rw [upd_n (by omega), upd_s]
  have w6 : upd (upd v (14 + 7 * j + 2) 1) (14 + 7 * j + 6) (v 0) (14 + 7 * j + 6) = v 0 := upd_s
  rw [eF]
  generalize upd (upd v (14 + 7 * j + 2) 1) (14 + 7 * j + 6) (v 0) = w at *
  have hz : ∀ k, w (14 + 7 * k + 2) = 0 → k ≠ j ∧ v (14 + 7 * k + 2) = 0 := fun k e => by
    by_cases ek : k = j
    · subst ek; rw [w2] at e; exact absurd e (by decide)
    · exact ⟨ek, (ot k 2 (by decide) (by omega)).symm.trans e⟩
  have ot0 : ∀ k, w (14 + 7 * k) = v (14 + 7 * k) := fun k => ot k 0 (by decide) (by omega)
  refine ⟨⟨⟨⟨(lo 1 (by decide)).trans h.wv.mw.lv, h.wv.mw.l16⟩, ⟨(lo 3 (by decide)).trans h.wv.mw.ct, h.wv.mw.c20⟩, fun k hk => by rw [ot0]; exact h.wv.mw.kd hk⟩, h.wv.l4, ?_, ?_, ?_, ?_, fun k hk => ⟨?_, ?_, fun q0 => ⟨?_, ?_, ?_, fun q hq h1 h2 => ?_⟩⟩⟩,
    ((h.sw.up (by omega) (by omega)).up (by omega) (by omega)).up (by omega) (by omega), fun k h4 h5 => ?_, fun k hk => ⟨?_, ?_, ?_, fun q0 => ⟨?_, ?_, ?_⟩, fun q0 => ?_⟩, fun i hi => ?_⟩
  · rw [lo 2 (by decide)]; exact h.wv.lap
  · rw [lo 5 (by decide)]; exact h.wv.op
  · rw [lo 6 (by decide)]; exact h.wv.au
  · rw [lo 4 (by decide)]; exact h.wv.wt
  · rw [ot k 1 (by decide) (by omega)]; exact (h.wv.ac hk).fu
  · by_cases e : k = j
    · subst e; exact Or.inr (Or.inl w2)
    · rw [ot k 2 (by decide) (by omega)]; exact (h.wv.ac hk).st
  · rw [ot k 3 (by decide) (by omega)]; exact (h.wv.ac hk).le (hz k q0).2
  · rw [ot k 4 (by decide) (by omega), lo 2 (by decide)]; exact (h.wv.ac hk).pl (hz k q0).2
  · rw [ot k 5 (by decide) (by omega)]; exact (h.wv.ac hk).ca (hz k q0).2
  · rw [ot k 3 (by decide) (by omega), ot q 3 (by decide) (by omega)] at h2
    exact (h.wv.ac hk).un (hz k q0).2 hq (hz q h1).2 h2
  · rw [up2_off (by omega), up2_off (by omega), up2_off (by omega), lo _ rs_lt]; exact h.sc h4 h5
  · rw [up2_off (by omega), up2_off (by omega), up2_off (by omega), ot0]; exact (h.ra hk).kd
  · rw [up2_off (by omega), up2_off (by omega), up2_off (by omega), ot k 1 (by decide) (by omega)]; exact (h.ra hk).fu
  · by_cases e : k = j
    · subst e; rw [up2_off (by omega), up2_same, w2]
    · rw [up2_off (by omega), up2_off (by omega), up2_off (by omega), ot k 2 (by decide) (by omega)]; exact (h.ra hk).st
  · rw [up2_off (by omega), up2_off (by omega), up2_off (by omega), ot k 3 (by decide) (by omega)]; exact (h.ra hk).le (hz k q0).2
  · rw [up2_off (by omega), up2_off (by omega), up2_off (by omega), ot k 4 (by decide) (by omega)]; exact (h.ra hk).pl (hz k q0).2
  · rw [up2_off (by omega), up2_off (by omega), up2_off (by omega), ot k 5 (by decide) (by omega)]; exact (h.ra hk).ca (hz k q0).2
  · by_cases e : k = j
    · subst e; rw [up2_same, w6]
    · rw [up2_off (by omega), up2_off (by omega), up2_off (by omega), ot k 6 (by decide) (by omega)]
      exact (h.ra hk).wh (by rw [← ot k 2 (by decide) (by omega)]; exact q0)
  · rw [up2_off (by omega), up2_off (by omega), mOn_leave (s := 1) h.wv (fun k => decide (k = j)) (by decide) (fun k hk => ?_) (fun k _ => ot k 3 (by decide) (by omega))]
    · by_cases e : i = lvN v j
      · subst e
        rw [up2_same, ← hl.1, mOn_is h.wv hj h0]
        show (-6 : Int32) = oI (if decide (j = j) = true then none else some j)
        rw [if_pos (decide_eq_true rfl)]
        rfl
      · rw [up2_off (by omega), h.ho hi]
        cases hm : mOn v (nI i) c with
        | none => rfl
        | some k =>
          have hk := mOn_lt hm
          simp only
          rw [if_neg]
          intro ek
          have ek := of_decide_eq_true ek
          subst ek
          exact e (((nI_eq (by omega) (by omega)).mp (hk.2.2.symm.trans hl.1)))
    · by_cases e : k = j
      · subst e; rw [if_pos (decide_eq_true rfl), w2]
      · rw [if_neg (fun q => e (of_decide_eq_true q)), ot k 2 (by decide) (by omega)]
theorem kWake_n {x : Int32} (h : hk x) : ∃ q, q ≤ 4 ∧ kWake x = nI q := by
  rcases h with rfl | rfl | rfl
  · exact ⟨2, by decide, rfl⟩
  · exact ⟨3, by decide, rfl⟩
  · exact ⟨4, by decide, rfl⟩
theorem Rel.ld {f : hMem} {v : Nat → Int32} {lv c j : Nat} (h : Rel f v lv c) (hj : j < c) (h0 : v (14 + 7 * j + 2) = 0) : Rel (sLd f j) (mV3 v (some j)) lv c := by
  have h1 := h.leave hj h0
  have e1 : sLeave f j 1 0 13 + sLeave f j 1 (3 + j) 2 = upd (upd v (14 + 7 * j + 2) 1) (14 + 7 * j + 6) (v 0) 11 + upd (upd v (14 + 7 * j + 2) 1) (14 + 7 * j + 6) (v 0) (14 + 7 * j + 1) := by
    rw [h1.sc (k := 13) (by decide) (by decide), (h1.ra hj).fu]; rfl
  have eL : mLeave v j 1 = upd (upd (upd v (14 + 7 * j + 2) 1) (14 + 7 * j + 6) (v 0)) 11 (upd (upd v (14 + 7 * j + 2) 1) (14 + 7 * j + 6) (v 0) 11 + upd (upd v (14 + 7 * j + 2) 1) (14 + 7 * j + 6) (v 0) (14 + 7 * j + 1)) := by
    unfold mLeave
    exact if_pos rfl
  have h2 := h1.up (k := 13) (x := sLeave f j 1 0 13 + sLeave f j 1 (3 + j) 2) (by decide) (by decide) (h1.wv.upF (by decide) (by decide))
  obtain ⟨q, hq, hw⟩ := kWake_n (h1.wv.mw.kd hj)
  have e8 : sLeave f j 1 (3 + j) 1 = upd (upd v (14 + 7 * j + 2) 1) (14 + 7 * j + 6) (v 0) (14 + 7 * j) := (h1.ra hj).kd
  have h3 := h2.up (k := 8) (x := nI q) (by decide) (by decide) (h2.wv.up4 hq)
  unfold sLd
  rw [show mV3 v (some j) = upd (mLeave v j 1) 4 (kWake (mLeave v j 1 (14 + 7 * j))) from rfl, e8, hw, eL, upd_n (show 14 + 7 * j ≠ 11 by omega), hw, ← e1]
  exact h3
theorem Rel.nxt {f : hMem} {v : Nat → Int32} {lv c : Nat} (h : Rel f v lv c) : sNext f lv = mLd v c := by
  have h1 := h.nx
  unfold nx0 at h1
  unfold sNext mLd
  rw [h1]
  cases hb : mLb v c with
  | some j => rfl
  | none =>
    have hs : sHold f 0 = mOn v 0 c := h.on (i := 0) (by have := h.wv.l4; omega)
    simp only
    rw [hs]
    cases hm : mOn v 0 c with
    | none => rfl
    | some j =>
      have hj := mOn_lt hm
      simp only
      rw [(h.ra hj.1).pl hj.2.1]
      by_cases e : v (14 + 7 * j + 4) = 0
      · rw [if_pos e, if_pos (show mOv v j = true from decide_eq_true ⟨hj.2.1, e⟩)]
      · rw [if_neg e, if_neg (show ¬ mOv v j = true from fun q => e (of_decide_eq_true q).2)]
theorem mLd_0 {v : Nat → Int32} {lv c j : Nat} (h : WV v lv c) (hd : mLd v c = some j) : j < c ∧ v (14 + 7 * j + 2) = 0 := by
  refine ⟨mLd_lt hd, ?_⟩
  unfold mLd at hd
  cases hb : mLb v c with
  | some i => rw [hb] at hd; cases hd; exact cd_0 ((mLb_at h (Nat.le_refl c)).2 _ hb).2.1
  | none =>
    rw [hb] at hd
    simp only at hd
    cases hm : mOn v 0 c with
    | none => rw [hm] at hd; cases hd
    | some i =>
      rw [hm] at hd
      simp only at hd
      split at hd
      · cases hd; exact (mOn_lt hm).2.1
      · cases hd
theorem Rel.lnd {f : hMem} {v : Nat → Int32} {lv c : Nat} (h : Rel f v lv c) : (sLnd f lv).1 = oI (mPq v c) ∧ Rel (sLnd f lv).2 (mV3 v (mPq v c)) lv c := by
  obtain ⟨w, hw1, hw2⟩ := h.wv.wt
  have e6 : f 0 6 = v 5 := h.sc (k := 6) (by decide) (by decide)
  have e8 : f 0 8 = nI w := (h.sc (k := 8) (by decide) (by decide)).trans hw2
  unfold sLnd mPq
  rw [e6, e8, hw2]
  by_cases hc : v 5 = 1 ∧ nI w = 0
  · have hw0 : w = 0 := (nI_eq (b := 0) (by omega) (by decide)).mp hc.2
    rw [if_pos hc, if_neg (fun q => q.elim (fun q => by rw [hc.1] at q; exact absurd q (by decide)) (fun q => by rw [hc.2] at q; exact absurd q (by decide))), h.nxt]
    cases hd : mLd v c with
    | none => exact ⟨rfl, h⟩
    | some j => exact ⟨rfl, h.ld (mLd_0 h.wv hd).1 (mLd_0 h.wv hd).2⟩
  · rw [if_neg hc, if_pos]
    · exact ⟨rfl, h⟩
    · rcases h.wv.op with e | e
      · exact Or.inl e
      · refine Or.inr ((nI_gt0 (by omega)).mpr ?_)
        by_cases e0 : w = 0
        · exact absurd ⟨e, by rw [e0]; rfl⟩ hc
        · omega
