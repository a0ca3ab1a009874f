/-! a call noted; a forecast's answers -/
theorem Rel.cal {f : hMem} {v : Nat → Int32} {lv c j : Nat} (h : Rel f v lv c) (hj : j < c) (h0 : v (14 + 7 * j + 2) = 0) : Rel (up2 f (3 + j) 6 1) (upd v (14 + 7 * j + 5) 1) lv c := by
  have lo : ∀ q, q < 14 → upd v (14 + 7 * j + 5) 1 q = v q := fun q hq => upd_n (by omega)
  have ot : ∀ k q, q < 7 → ¬ (k = j ∧ q = 5) → upd v (14 + 7 * j + 5) 1 (14 + 7 * k + q) = v (14 + 7 * k + q) := fun k q hq hn => upd_n (by omega)
  have w5 : upd v (14 + 7 * j + 5) 1 (14 + 7 * j + 5) = 1 := upd_s
  generalize upd v (14 + 7 * j + 5) 1 = w at *
  have ot0 : ∀ k, w (14 + 7 * k) = v (14 + 7 * k) := fun k => ot k 0 (by decide) (by omega)
  have o2 : ∀ k, w (14 + 7 * k + 2) = v (14 + 7 * k + 2) := fun k => ot k 2 (by decide) (by omega)
  have o3 : ∀ k, w (14 + 7 * k + 3) = v (14 + 7 * k + 3) := fun k => ot k 3 (by decide) (by omega)
  refine ⟨⟨⟨⟨(lo 1 (by decide)).trans h.wv.mw.lv, h.wv.mw.l16⟩, ⟨(lo 3 (by decide)).trans h.wv.mw.ct, h.wv.mw.c20⟩, fun k hk => by rw [ot0]; exact h.wv.mw.kd hk⟩, h.wv.l4, ?_, ?_, ?_, ?_, fun k hk => ⟨?_, ?_, fun q0 => ⟨?_, ?_, ?_, fun q hq h1 h2 => ?_⟩⟩⟩,
    h.sw.up (by omega) (by omega), fun k h4 h5 => ?_, fun k hk => ⟨?_, ?_, ?_, fun q0 => ⟨?_, ?_, ?_⟩, fun q0 => ?_⟩, fun l hl => ?_⟩
  · rw [lo 2 (by decide)]; exact h.wv.lap
  · rw [lo 5 (by decide)]; exact h.wv.op
  · rw [lo 6 (by decide)]; exact h.wv.au
  · rw [lo 4 (by decide)]; exact h.wv.wt
  · rw [ot k 1 (by decide) (by omega)]; exact (h.wv.ac hk).fu
  · rw [o2]; exact (h.wv.ac hk).st
  · rw [o2] at q0; rw [o3]; exact (h.wv.ac hk).le q0
  · rw [o2] at q0; rw [ot k 4 (by decide) (by omega), lo 2 (by decide)]; exact (h.wv.ac hk).pl q0
  · rw [o2] at q0
    by_cases e : k = j
    · subst e; exact Or.inr w5
    · rw [ot k 5 (by decide) (by omega)]; exact (h.wv.ac hk).ca q0
  · rw [o2] at q0 h1
    rw [o3, o3] at h2
    exact (h.wv.ac hk).un q0 hq h1 h2
  · rw [up2_off (by omega), lo _ rs_lt]; exact h.sc h4 h5
  · rw [up2_off (by omega), ot0]; exact (h.ra hk).kd
  · rw [up2_off (by omega), ot k 1 (by decide) (by omega)]; exact (h.ra hk).fu
  · rw [up2_off (by omega), o2]; exact (h.ra hk).st
  · rw [o2] at q0; rw [up2_off (by omega), o3]; exact (h.ra hk).le q0
  · rw [o2] at q0; rw [up2_off (by omega), ot k 4 (by decide) (by omega)]; exact (h.ra hk).pl q0
  · rw [o2] at q0
    by_cases e : k = j
    · subst e; rw [up2_same, w5]
    · rw [up2_off (by omega), ot k 5 (by decide) (by omega)]; exact (h.ra hk).ca q0
  · rw [o2] at q0; rw [up2_off (by omega), ot k 6 (by decide) (by omega)]; exact (h.ra hk).wh q0
  · rw [up2_off (by omega), h.ho hl]
    exact congrArg oI (mOn_c (fun k _ => ⟨(o2 k).symm, (o3 k).symm⟩))
