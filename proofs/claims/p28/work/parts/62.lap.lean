/-! the lap -/
theorem mLp_at {v : Nat → Int32} {x : Int32} (a : Nat) : (∀ k, k < 14 → mLp v x a k = v k) ∧
    ∀ j k, k < 7 → mLp v x a (14 + 7 * j + k) = if j < a ∧ k = 4 then (if v (14 + 7 * j + 4) < x then v (14 + 7 * j + 4) else 0) else v (14 + 7 * j + k) := by
  induction a with
  | zero => exact ⟨fun _ _ => rfl, fun j k _ => by rw [if_neg (by omega)]; rfl⟩
  | succ a ih =>
    obtain ⟨i1, i2⟩ := ih
    have e4 : mLp v x a (14 + 7 * a + 4) = v (14 + 7 * a + 4) := by rw [i2 a 4 (by decide), if_neg (by omega)]
    refine ⟨fun k hk => by rw [mLp, upd_n (by omega), i1 k hk], fun j k hk => ?_⟩
    rw [mLp, e4]
    by_cases e : j = a
    · subst e
      by_cases k4 : k = 4
      · subst k4; rw [upd_s, if_pos (show j < j + 1 ∧ 4 = 4 from ⟨Nat.lt_succ_self _, rfl⟩)]
      · rw [upd_n (by omega), i2 j k hk, if_neg (by omega), if_neg (by omega)]
    · rw [upd_n (by omega), i2 j k hk]
      have e2 : (j < a + 1) = (j < a) := by simp; omega
      simp only [e2]
theorem cl_at {f : hMem} {v : Nat → Int32} {lv c : Nat} {m : Int32} (h : Rel f v lv c) {i : Nat} (hi : i ≤ lv) :
    (∀ k, cl (up2 f 0 4 m) i 0 k = up2 f 0 4 m 0 k) ∧ cl (up2 f 0 4 m) i 2 = f 2 ∧ (∀ j k, k ≠ 5 → cl (up2 f 0 4 m) i (3 + j) k = f (3 + j) k) ∧
    ∀ j, j < c → ((v (14 + 7 * j + 2) = 0 ∧ ∃ l, l < i ∧ v (14 + 7 * j + 3) = nI l) → cl (up2 f 0 4 m) i (3 + j) 5 = if m ≤ v (14 + 7 * j + 4) then 0 else v (14 + 7 * j + 4)) ∧
      (¬ (v (14 + 7 * j + 2) = 0 ∧ ∃ l, l < i ∧ v (14 + 7 * j + 3) = nI l) → cl (up2 f 0 4 m) i (3 + j) 5 = f (3 + j) 5) := by
  have hl16 := h.sw.l16
  induction i with
  | zero => exact ⟨fun _ => rfl, up2_row (by decide), fun j k _ => up2_off (by omega), fun j hj => ⟨fun e => by obtain ⟨-, l, h1, -⟩ := e; omega, fun _ => up2_off (by omega)⟩⟩
  | succ i ih =>
    obtain ⟨i1, i2, i4, i5⟩ := ih (by omega)
    have hs : sHold (cl (up2 f 0 4 m) i) (nI i) = mOn v (nI i) c := (sHold_c ((i1 2).trans (up2_off (by decide))) ((i1 3).trans (up2_off (by decide))) i2).trans (h.on (by omega))
    cases hm : mOn v (nI i) c with
    | none =>
      rw [cl_none (hs.trans hm)]
      refine ⟨i1, i2, i4, fun j hj => ?_⟩
      have e : (v (14 + 7 * j + 2) = 0 ∧ ∃ l, l < i + 1 ∧ v (14 + 7 * j + 3) = nI l) ↔ (v (14 + 7 * j + 2) = 0 ∧ ∃ l, l < i ∧ v (14 + 7 * j + 3) = nI l) := by
        refine ⟨fun q => ⟨q.1, ?_⟩, fun q => ⟨q.1, by obtain ⟨-, l, h1, h2⟩ := q; exact ⟨l, by omega, h2⟩⟩⟩
        obtain ⟨q0, l, h1, h2⟩ := q
        refine ⟨l, ?_, h2⟩
        by_cases el : l = i
        · subst el; exact absurd ⟨q0, h2⟩ (mOn_no hm hj)
        · omega
      rw [e]
      exact i5 j hj
    | some j0 =>
      have hj0 := mOn_lt hm
      have ha := h.ra hj0.1
      have hn : ¬ (v (14 + 7 * j0 + 2) = 0 ∧ ∃ l, l < i ∧ v (14 + 7 * j0 + 3) = nI l) := by
        rintro ⟨-, l, h1, h2⟩
        have := (nI_eq (by omega) (by omega)).mp (h2.symm.trans hj0.2.2)
        omega
      have eq5 : cl (up2 f 0 4 m) i (3 + j0) 5 = v (14 + 7 * j0 + 4) := ((i5 j0 hj0.1).2 hn).trans (ha.pl hj0.2.1)
      have eL : cl (up2 f 0 4 m) i 0 4 = m := (i1 4).trans up2_same
      have hS : sLp (cl (up2 f 0 4 m) i) j0 = up2 (cl (up2 f 0 4 m) i) (3 + j0) 5 (if m ≤ v (14 + 7 * j0 + 4) then 0 else v (14 + 7 * j0 + 4)) := by
        unfold sLp
        rw [eL, eq5]
        by_cases e : m ≤ v (14 + 7 * j0 + 4)
        · rw [if_pos e, if_pos e]
        · rw [if_neg e, if_neg e, ← eq5, up2_self]
      rw [cl_some (hs.trans hm), hS]
      refine ⟨fun k => ?_, ?_, fun j k hk5 => ?_, fun j hj => ⟨fun e => ?_, fun e => ?_⟩⟩
      · rw [up2_off (by omega), i1 k]
      · rw [up2_row (by omega), i2]
      · rw [up2_off (by omega), i4 j k hk5]
      · by_cases ej : j = j0
        · subst ej; rw [up2_same]
        · have e9 : v (14 + 7 * j + 2) = 0 ∧ ∃ l, l < i ∧ v (14 + 7 * j + 3) = nI l := by
            obtain ⟨e0, l, h1, h2⟩ := e
            refine ⟨e0, l, ?_, h2⟩
            by_cases el : l = i
            · subst el; exact absurd ((h.wv.ac hj0.1).un hj0.2.1 hj e0 (h2.trans hj0.2.2.symm)) ej
            · omega
          rw [up2_off (by omega)]
          exact (i5 j hj).1 e9
      · by_cases ej : j = j0
        · subst ej
          exact absurd ⟨hj0.2.1, i, Nat.lt_succ_self i, hj0.2.2⟩ e
        · rw [up2_off (by omega)]
          exact (i5 j hj).2 (fun q => e ⟨q.1, by obtain ⟨-, l, h1, h2⟩ := q; exact ⟨l, by omega, h2⟩⟩)
theorem Rel.lap {f : hMem} {v : Nat → Int32} {lv c r : Nat} (h : Rel f v lv c) (h2 : 2 ≤ r) (h8 : r ≤ 8) : Rel (sLap f lv (nI r)) (upd (mLp v (nI r) c) 2 (nI r)) lv c := by
  obtain ⟨m1, m3⟩ := mLp_at (v := v) (x := nI r) c
  obtain ⟨b1, b2', b4, b5⟩ := cl_at (m := nI r) h (Nat.le_refl lv)
  have hl16 := h.sw.l16
  have lo : ∀ k, k < 14 → k ≠ 2 → upd (mLp v (nI r) c) 2 (nI r) k = v k := fun k hk h2 => by rw [upd_n h2, m1 k hk]
  have ot : ∀ j k, k < 7 → k ≠ 4 → upd (mLp v (nI r) c) 2 (nI r) (14 + 7 * j + k) = v (14 + 7 * j + k) := fun j k hk h4 => by rw [upd_n (by omega), m3 j k hk, if_neg (by omega)]
  have o4 : ∀ j, j < c → upd (mLp v (nI r) c) 2 (nI r) (14 + 7 * j + 4) = if v (14 + 7 * j + 4) < nI r then v (14 + 7 * j + 4) else 0 := fun j hj => by rw [upd_n (by omega), m3 j 4 (by decide), if_pos ⟨hj, rfl⟩]
  have w2 : upd (mLp v (nI r) c) 2 (nI r) 2 = nI r := upd_s
  generalize upd (mLp v (nI r) c) 2 (nI r) = w at *
  have ot0 : ∀ k, w (14 + 7 * k) = v (14 + 7 * k) := fun k => ot k 0 (by decide) (by decide)
  have hpl : ∀ j, j < c → v (14 + 7 * j + 2) = 0 → ∃ p r2, p < r2 ∧ r2 ≤ 8 ∧ w (14 + 7 * j + 4) = nI p ∧ w 2 = nI r2 := fun j hj h0 => by
    obtain ⟨p, r1, p1, p2, p3, p4⟩ := (h.wv.ac hj).pl h0
    rw [o4 j hj, p3, w2]
    by_cases e : p < r
    · exact ⟨p, r, e, h8, if_pos ((nI_ltI (by omega) (by omega)).mpr e), rfl⟩
    · exact ⟨0, r, by omega, h8, if_neg (fun q => e ((nI_ltI (by omega) (by omega)).mp q)), rfl⟩
  unfold sLap
  refine ⟨⟨⟨⟨(lo 1 (by decide) (by decide)).trans h.wv.mw.lv, h.wv.mw.l16⟩, ⟨(lo 3 (by decide) (by decide)).trans h.wv.mw.ct, h.wv.mw.c20⟩, fun k hk => by rw [ot0]; exact h.wv.mw.kd hk⟩, h.wv.l4, ⟨r, h2, h8, w2⟩, ?_, ?_, ?_, fun k hk => ⟨?_, ?_, fun q0 => ⟨?_, ?_, ?_, fun q hq h1 h2 => ?_⟩⟩⟩,
    SWcl (h.sw.up (by decide) (by omega)) lv, fun k h4 h5 => ?_, fun k hk => ⟨?_, ?_, ?_, fun q0 => ⟨?_, ?_, ?_⟩, fun q0 => ?_⟩, fun i hi => ?_⟩
  · rw [lo 5 (by decide) (by decide)]; exact h.wv.op
  · rw [lo 6 (by decide) (by decide)]; exact h.wv.au
  · rw [lo 4 (by decide) (by decide)]; exact h.wv.wt
  · rw [ot k 1 (by decide) (by decide)]; exact (h.wv.ac hk).fu
  · rw [ot k 2 (by decide) (by decide)]; exact (h.wv.ac hk).st
  · rw [ot k 2 (by decide) (by decide)] at q0; rw [ot k 3 (by decide) (by decide)]; exact (h.wv.ac hk).le q0
  · rw [ot k 2 (by decide) (by decide)] at q0; exact hpl k hk q0
  · rw [ot k 2 (by decide) (by decide)] at q0; rw [ot k 5 (by decide) (by decide)]; exact (h.wv.ac hk).ca q0
  · rw [ot k 2 (by decide) (by decide)] at q0
    rw [ot q 2 (by decide) (by decide)] at h1
    rw [ot q 3 (by decide) (by decide), ot k 3 (by decide) (by decide)] at h2
    exact (h.wv.ac hk).un q0 hq h1 h2
  · rw [b1 k]
    by_cases e : k = 4
    · subst e; rw [up2_same]; exact w2.symm
    · rw [up2_off (by omega), h.sc h4 h5]
      refine (lo _ rs_lt (fun q => e (rs_inj (by decide) (by decide) h4 h5 q))).symm
  · rw [b4 k 1 (by decide), ot0]; exact (h.ra hk).kd
  · rw [b4 k 2 (by decide), ot k 1 (by decide) (by decide)]; exact (h.ra hk).fu
  · rw [b4 k 3 (by decide), ot k 2 (by decide) (by decide)]; exact (h.ra hk).st
  · rw [ot k 2 (by decide) (by decide)] at q0; rw [b4 k 4 (by decide), ot k 3 (by decide) (by decide)]; exact (h.ra hk).le q0
  · rw [ot k 2 (by decide) (by decide)] at q0
    rw [(b5 k hk).1 ⟨q0, (h.wv.ac hk).le q0⟩, o4 k hk]
    by_cases e : v (14 + 7 * k + 4) < nI r
    · rw [if_pos e, if_neg (Int32.not_le.mpr e)]
    · rw [if_neg e, if_pos (Int32.not_lt.mp e)]
  · rw [ot k 2 (by decide) (by decide)] at q0; rw [b4 k 6 (by decide), ot k 5 (by decide) (by decide)]; exact (h.ra hk).ca q0
  · rw [ot k 2 (by decide) (by decide)] at q0; rw [b4 k 7 (by decide), ot k 6 (by decide) (by decide)]; exact (h.ra hk).wh q0
  · rw [b2', h.ho hi]
    exact congrArg oI (mOn_c (fun j hj => ⟨(ot j 2 (by decide) (by decide)).symm, (ot j 3 (by decide) (by decide)).symm⟩))
