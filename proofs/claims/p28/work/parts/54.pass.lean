/-! down the ladder; a minute -/
theorem mOn_ext {v w : Nat → Int32} {x : Int32} {n : Nat} (h : ∀ j, j < n → ((w (14 + 7 * j + 2) = 0 ∧ w (14 + 7 * j + 3) = x) ↔ (v (14 + 7 * j + 2) = 0 ∧ v (14 + 7 * j + 3) = x))) : mOn w x n = mOn v x n := by
  induction n with
  | zero => rfl
  | succ n ih =>
    rw [mOn, mOn, ih (fun j hj => h j (by omega))]
    cases mOn v x n with
    | some i => rfl
    | none =>
      simp only
      by_cases e : v (14 + 7 * n + 2) = 0 ∧ v (14 + 7 * n + 3) = x
      · rw [if_pos e, if_pos ((h n (Nat.lt_succ_self n)).mpr e)]
      · rw [if_neg e, if_neg (fun q => e ((h n (Nat.lt_succ_self n)).mp q))]
theorem Rel.down {f : hMem} {v : Nat → Int32} {lv c j i : Nat} (h : Rel f v lv c) (hi : i + 1 < lv) (hm : mOn v (nI (i + 1)) c = some j) (hn : mOn v (nI i) c = none) :
    Rel (sDown f j i) (upd (upd (upd v (14 + 7 * j + 3) (nI i)) (14 + 7 * j + 5) 0) 8 (upd (upd v (14 + 7 * j + 3) (nI i)) (14 + 7 * j + 5) 0 8 + 1)) lv c := by
  have hl16 := h.sw.l16
  obtain ⟨hj, h0, hlj⟩ := mOn_lt hm
  have lo : ∀ q, q < 14 → upd (upd v (14 + 7 * j + 3) (nI i)) (14 + 7 * j + 5) 0 q = v q := fun q hq => by rw [upd_n (by omega), upd_n (by omega)]
  have ot : ∀ k q, q < 7 → ¬ (k = j ∧ (q = 3 ∨ q = 5)) → upd (upd v (14 + 7 * j + 3) (nI i)) (14 + 7 * j + 5) 0 (14 + 7 * k + q) = v (14 + 7 * k + q) := fun k q hq hn => by rw [upd_n (by omega), upd_n (by omega)]
  have w3 : upd (upd v (14 + 7 * j + 3) (nI i)) (14 + 7 * j + 5) 0 (14 + 7 * j + 3) = nI i := by rw [upd_n (by omega), upd_s]
  have w5 : upd (upd v (14 + 7 * j + 3) (nI i)) (14 + 7 * j + 5) 0 (14 + 7 * j + 5) = 0 := upd_s
  have e10 : f 0 10 + 1 = upd (upd v (14 + 7 * j + 3) (nI i)) (14 + 7 * j + 5) 0 8 + 1 := by rw [lo 8 (by decide), h.sc (k := 10) (by decide) (by decide)]; rfl
  unfold sDown
  rw [e10, sSetH_n (by omega), sSetH_n (by omega)]
  generalize upd (upd v (14 + 7 * j + 3) (nI i)) (14 + 7 * j + 5) 0 = w at *
  have ot0 : ∀ k, w (14 + 7 * k) = v (14 + 7 * k) := fun k => ot k 0 (by decide) (by omega)
  have o2 : ∀ k, w (14 + 7 * k + 2) = v (14 + 7 * k + 2) := fun k => ot k 2 (by decide) (by omega)
  have hi1 : nI i ≠ nI (i + 1) := fun e => by have := (nI_eq (by omega) (by omega)).mp e; omega
  have hwv : WV w lv c := by
    refine ⟨⟨⟨(lo 1 (by decide)).trans h.wv.mw.lv, h.wv.mw.l16⟩, ⟨(lo 3 (by decide)).trans h.wv.mw.ct, h.wv.mw.c20⟩, fun k hk => by rw [ot0]; exact h.wv.mw.kd hk⟩, h.wv.l4, ?_, ?_, ?_, ?_, fun k hk => ⟨?_, ?_, fun q0 => ⟨?_, ?_, ?_, fun q hq h1 h2 => ?_⟩⟩⟩
    · rw [lo 2 (by decide)]; exact h.wv.lap
    · rw [lo 5 (by decide)]; exact h.wv.op
    · rw [lo 6 (by decide)]; exact h.wv.au
    · rw [lo 4 (by decide)]; exact h.wv.wt
    · rw [ot k 1 (by decide) (by omega)]; exact (h.wv.ac hk).fu
    · rw [o2]; exact (h.wv.ac hk).st
    · rw [o2] at q0
      by_cases e : k = j
      · subst e; exact ⟨i, by omega, w3⟩
      · rw [ot k 3 (by decide) (by omega)]; exact (h.wv.ac hk).le q0
    · rw [o2] at q0
      rw [ot k 4 (by decide) (by omega), lo 2 (by decide)]; exact (h.wv.ac hk).pl q0
    · rw [o2] at q0
      by_cases e : k = j
      · subst e; exact Or.inl w5
      · rw [ot k 5 (by decide) (by omega)]; exact (h.wv.ac hk).ca q0
    · rw [o2] at q0 h1
      by_cases e : k = j
      · subst e
        by_cases e2 : q = k
        · exact e2
        · rw [w3, ot q 3 (by decide) (by omega)] at h2
          exact absurd ⟨h1, h2⟩ (mOn_no hn hq)
      · rw [ot k 3 (by decide) (by omega)] at h2
        by_cases e2 : q = j
        · subst e2
          rw [w3] at h2
          exact absurd ⟨q0, h2.symm⟩ (mOn_no hn hk)
        · rw [ot q 3 (by decide) (by omega)] at h2
          exact (h.wv.ac hk).un q0 hq h1 h2
  refine Rel.up (k := 10) ?_ (by decide) (by decide) (hwv.upF (by decide) (by decide))
  refine ⟨hwv, (((h.sw.up (by omega) (by omega)).up (by omega) (by omega)).up (by omega) (by omega)).up (by omega) (by omega), fun k h4 h5 => ?_, fun k hk => ⟨?_, ?_, ?_, fun q0 => ⟨?_, ?_, ?_⟩, fun q0 => ?_⟩, fun l hl => ?_⟩
  · rw [up2_off (by omega), up2_off (by omega), up2_off (by omega), up2_off (by omega), lo _ rs_lt]; exact h.sc h4 h5
  · rw [up2_off (by omega), up2_off (by omega), up2_off (by omega), up2_off (by omega), ot0]; exact (h.ra hk).kd
  · rw [up2_off (by omega), up2_off (by omega), up2_off (by omega), up2_off (by omega), ot k 1 (by decide) (by omega)]; exact (h.ra hk).fu
  · rw [up2_off (by omega), up2_off (by omega), up2_off (by omega), up2_off (by omega), o2]; exact (h.ra hk).st
  · rw [o2] at q0
    by_cases e : k = j
    · subst e; rw [up2_off (by omega), up2_same, w3]
    · rw [up2_off (by omega), up2_off (by omega), up2_off (by omega), up2_off (by omega), ot k 3 (by decide) (by omega)]; exact (h.ra hk).le q0
  · rw [o2] at q0
    rw [up2_off (by omega), up2_off (by omega), up2_off (by omega), up2_off (by omega), ot k 4 (by decide) (by omega)]; exact (h.ra hk).pl q0
  · rw [o2] at q0
    by_cases e : k = j
    · subst e; rw [up2_same, w5]
    · rw [up2_off (by omega), up2_off (by omega), up2_off (by omega), up2_off (by omega), ot k 5 (by decide) (by omega)]; exact (h.ra hk).ca q0
  · rw [o2] at q0
    rw [up2_off (by omega), up2_off (by omega), up2_off (by omega), up2_off (by omega), ot k 6 (by decide) (by omega)]; exact (h.ra hk).wh q0
  · rw [up2_off (by omega), up2_off (by omega)]
    by_cases e : l = i
    · subst e
      rw [up2_same]
      have := mOn_is hwv hj ((o2 j).trans h0)
      rw [w3] at this
      rw [this]
      rfl
    · rw [up2_off (by omega)]
      by_cases e2 : l = i + 1
      · subst e2
        rw [up2_same, mOn_none (fun k hk q => ?_)]
        · rfl
        · by_cases ek : k = j
          · subst ek; exact hi1 (w3.symm.trans q.2)
          · rw [o2, ot k 3 (by decide) (by omega)] at q
            exact ek ((h.wv.ac hj).un h0 hk q.1 (q.2.trans hlj.symm))
      · rw [up2_off (by omega), h.ho hl]
        refine congrArg oI (mOn_ext (fun k hk => ?_)).symm
        rw [o2]
        by_cases ek : k = j
        · subst ek
          rw [w3, hlj]
          exact ⟨fun q => absurd ((nI_eq (by omega) (by omega)).mp q.2).symm e, fun q => absurd ((nI_eq (by omega) (by omega)).mp q.2).symm e2⟩
        · rw [ot k 3 (by decide) (by omega)]
theorem Rel.k1 {f : hMem} {v : Nat → Int32} {lv c i j : Nat} (h : Rel f v lv c) (hi : i + 1 < lv) (hm : mOn v (nI (i + 1)) c = some j) : Rel (gds f j i) (mK1 v c i) lv c := by
  obtain ⟨hj, h0, hlj⟩ := mOn_lt hm
  have hv : (f (3 + j) 5 = 0 ∧ bFree f (nI i) = true ∧ (¬ f 0 7 = 0 ∨ ¬ f (3 + j) 6 = 0)) ↔ (mOv v j = true ∧ mOn v (nI i) c = none ∧ (v 6 = 1 ∨ v (14 + 7 * j + 5) = 1)) := by
    rw [h.fr (by omega), (h.ra hj).pl h0, (h.ra hj).ca h0, h.sc (k := 7) (by decide) (by decide), decide_eq_true_iff, show rs 7 = 6 from rfl, show mOv v j = true ↔ (v (14 + 7 * j + 2) = 0 ∧ v (14 + 7 * j + 4) = 0) from decide_eq_true_iff]
    have b : ∀ x : Int32, (x = 0 ∨ x = 1) → (¬ x = 0 ↔ x = 1) := fun x hx => by rcases hx with rfl | rfl <;> decide
    rw [b _ h.wv.au, b _ ((h.wv.ac hj).ca h0)]
    exact ⟨fun q => ⟨⟨h0, q.1⟩, q.2⟩, fun q => ⟨q.1.2, q.2⟩⟩
  unfold gds mK1
  rw [hm]
  simp only
  by_cases e : mOv v j = true ∧ mOn v (nI i) c = none ∧ (v 6 = 1 ∨ v (14 + 7 * j + 5) = 1)
  · rw [if_pos (hv.mpr e), if_pos e]
    exact h.down hi hm e.2.1
  · rw [if_neg (fun q => e (hv.mp q)), if_neg e]
    exact h
theorem Rel.ks {f : hMem} {v : Nat → Int32} {lv c i : Nat} (h : Rel f v lv c) (hi : i < lv) : Rel (gd f i) (mKs v c i) lv c := by
  induction i with
  | zero => exact h
  | succ i ih =>
    have h1 := ih (by omega)
    have hs := h1.on hi
    rw [mKs]
    cases hm : mOn (mKs v c i) (nI (i + 1)) c with
    | none =>
      rw [gd_none (hs.trans hm)]
      unfold mK1
      rw [hm]
      exact h1
    | some j =>
      rw [gd_some (hs.trans hm)]
      exact h1.k1 hi hm
theorem Rel.ps {f : hMem} {v : Nat → Int32} {lv c : Nat} (h : Rel f v lv c) : (sPass f lv).1 = oI (mPa v c) ∧ Rel (sPass f lv).2 (mPs v lv c) lv c := by
  have h1 : Rel (sWait (dv (bf f lv) lv)) (mB2 v c) lv c := h.bs.ds.wait
  have h2 := h1.lnd
  have h3 := h2.2.ks (i := lv - 1) (by have := h.wv.l4; omega)
  refine ⟨h2.1, ?_⟩
  have e : gd (sLand (dv (bf f lv) lv) lv).2 (lv - 1) 0 9 + 1 = mKs (mV3 (mB2 v c) (mPa v c)) c (lv - 1) 0 + 1 := by
    have := h3.sc (k := 9) (by decide) (by decide)
    exact congrArg (· + 1) this
  show Rel (up2 (gd (sLand (dv (bf f lv) lv) lv).2 (lv - 1)) 0 9 (gd (sLand (dv (bf f lv) lv) lv).2 (lv - 1) 0 9 + 1)) (upd (mKs (mV3 (mB2 v c) (mPa v c)) c (lv - 1)) 0 (mKs (mV3 (mB2 v c) (mPa v c)) c (lv - 1) 0 + 1)) lv c
  rw [e]
  exact h3.up (k := 9) (by decide) (by decide) (h3.wv.upF (by decide) (Or.inl rfl))
