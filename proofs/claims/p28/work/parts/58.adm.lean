/-! one enters -/
theorem mEn_lo {v : Nat → Int32} {c i : Nat} {x fu y : Int32} (hi : i < 14) (h : i ≠ 3 ∧ i ≠ 9 ∧ i ≠ 13) : mEn v c x fu y i = v i := by
  unfold mEn
  rw [upd_n h.2.2, upd_n h.2.1, upd_n h.1]
  repeat rw [upd_n (by omega)]
theorem mEn_3 {v : Nat → Int32} {c : Nat} {x fu y : Int32} : mEn v c x fu y 3 = nI (c + 1) := by
  unfold mEn
  rw [upd_n (by decide), upd_n (by decide), upd_s]
theorem mEn_9 {v : Nat → Int32} {c : Nat} {x fu y : Int32} : mEn v c x fu y 9 = v 9 + fu := by
  unfold mEn
  rw [upd_n (by decide), upd_s]
theorem mEn_k {v : Nat → Int32} {c i : Nat} {x fu y : Int32} (hi : 14 ≤ i) (h : i < 14 + 7 * c ∨ 14 + 7 * c + 7 ≤ i) : mEn v c x fu y i = v i := by
  unfold mEn
  repeat rw [upd_n (by omega)]
theorem mEn_c {v : Nat → Int32} {c : Nat} {x fu y : Int32} : mEn v c x fu y (14 + 7 * c) = x ∧ mEn v c x fu y (14 + 7 * c + 1) = fu ∧ mEn v c x fu y (14 + 7 * c + 2) = 0 ∧ mEn v c x fu y (14 + 7 * c + 3) = y ∧ mEn v c x fu y (14 + 7 * c + 4) = 1 ∧ mEn v c x fu y (14 + 7 * c + 5) = 0 := by
  unfold mEn
  refine ⟨?_, ?_, ?_, ?_, ?_, ?_⟩
  · rw [upd_n (by omega), upd_n (by omega), upd_n (by omega), upd_n (by omega), upd_n (by omega), upd_n (by omega), upd_n (by omega), upd_n (by omega), upd_n (by omega), upd_s]
  · rw [upd_n (by omega), upd_n (by omega), upd_n (by omega), upd_n (by omega), upd_n (by omega), upd_n (by omega), upd_n (by omega), upd_n (by omega), upd_s]
  · rw [upd_n (by omega), upd_n (by omega), upd_n (by omega), upd_n (by omega), upd_n (by omega), upd_n (by omega), upd_n (by omega), upd_s]
  · rw [upd_n (by omega), upd_n (by omega), upd_n (by omega), upd_n (by omega), upd_n (by omega), upd_n (by omega), upd_s]
  · rw [upd_n (by omega), upd_n (by omega), upd_n (by omega), upd_n (by omega), upd_n (by omega), upd_s]
  · rw [upd_n (by omega), upd_n (by omega), upd_n (by omega), upd_n (by omega), upd_s]
theorem sAdm_e {f : hMem} {c l : Nat} {x fu : Int32} (hl : l < 16) : sAdm f c x fu (nI l) = up2 (up2 (up2 (up2 (up2 (up2 (up2 (up2 (up2 (up2 f 0 2 (nI c + 1)) (3 + c) 1 x) (3 + c) 2 fu) (3 + c) 3 0) (3 + c) 4 (nI l)) (3 + c) 5 1) (3 + c) 6 0) 2 l (nI c)) 0 11 (f 0 11 + fu)) 0 15 0 := by
  unfold sAdm
  rw [sSetH_n hl]
  have e : up2 (up2 (up2 (up2 (up2 (up2 (up2 (up2 f 0 2 (nI c + 1)) (3 + c) 1 x) (3 + c) 2 fu) (3 + c) 3 0) (3 + c) 4 (nI l)) (3 + c) 5 1) (3 + c) 6 0) 2 l (nI c) 0 11 = f 0 11 := by
    rw [up2_off (by omega), up2_off (by omega), up2_off (by omega), up2_off (by omega), up2_off (by omega), up2_off (by omega), up2_off (by omega), up2_off (by omega)]
  rw [e]
theorem sAdm_j {f : hMem} {c l j k : Nat} {x fu : Int32} (hl : l < 16) (h : j ≠ c) : sAdm f c x fu (nI l) (3 + j) k = f (3 + j) k := by
  rw [sAdm_e hl, up2_off (by omega), up2_off (by omega), up2_off (by omega), up2_off (by omega), up2_off (by omega), up2_off (by omega), up2_off (by omega), up2_off (by omega), up2_off (by omega), up2_off (by omega)]
theorem Rel.en {f : hMem} {v : Nat → Int32} {lv c l u : Nat} {x : Int32} (h : Rel f v lv c) (hc : c < 20) (hx : hk x) (hu : u ≤ 9999) (hl : l < lv) (hm : mOn v (nI l) c = none) :
    Rel (sAdm f c x (nI u) (nI l)) (mEn v c x (nI u) (nI l)) lv (c + 1) := by
  have hl16 := h.sw.l16
  obtain ⟨r, r2, r8, hr⟩ := h.wv.lap
  have C := mEn_c (v := v) (c := c) (x := x) (fu := nI u) (y := nI l)
  have lo2 : mEn v c x (nI u) (nI l) 2 = v 2 := mEn_lo (by decide) (by decide)
  have ot : ∀ k q, k < c → q < 7 → mEn v c x (nI u) (nI l) (14 + 7 * k + q) = v (14 + 7 * k + q) := fun k q hk hq => mEn_k (by omega) (by omega)
  have ot0 : ∀ k, k < c → mEn v c x (nI u) (nI l) (14 + 7 * k) = v (14 + 7 * k) := fun k hk => mEn_k (by omega) (by omega)
  have hon : ∀ i, mOn (mEn v c x (nI u) (nI l)) (nI i) c = mOn v (nI i) c := fun i => mOn_c (fun j hj => ⟨ot j 2 hj (by decide), ot j 3 hj (by decide)⟩)
  refine ⟨⟨h.wv.mw.en hc hx, h.wv.l4, ?_, ?_, ?_, ?_, fun k hk => ?_⟩, SWadm h.sw hc hx, fun k h4 h5 => ?_, fun k hk => ?_, fun i hi => ?_⟩
  · rw [lo2]; exact h.wv.lap
  · rw [mEn_lo (by decide) (by decide)]; exact h.wv.op
  · rw [mEn_lo (by decide) (by decide)]; exact h.wv.au
  · rw [mEn_lo (by decide) (by decide)]; exact h.wv.wt
  · by_cases e : k = c
    · subst e
      refine ⟨⟨u, hu, C.2.1⟩, Or.inl C.2.2.1, fun q0 => ⟨⟨l, hl, C.2.2.2.1⟩, ⟨1, r, by omega, r8, C.2.2.2.2.1, lo2.trans hr⟩, Or.inl C.2.2.2.2.2, fun q hq h1 h2 => ?_⟩⟩
      by_cases eq : q = k
      · exact eq
      · rw [ot q 2 (by omega) (by decide)] at h1
        rw [ot q 3 (by omega) (by decide), C.2.2.2.1] at h2
        exact absurd ⟨h1, h2⟩ (mOn_no hm (by omega))
    · have hk : k < c := by omega
      refine ⟨?_, ?_, fun q0 => ⟨?_, ?_, ?_, fun q hq h1 h2 => ?_⟩⟩
      · rw [ot k 1 hk (by decide)]; exact (h.wv.ac hk).fu
      · rw [ot k 2 hk (by decide)]; exact (h.wv.ac hk).st
      · rw [ot k 2 hk (by decide)] at q0; rw [ot k 3 hk (by decide)]; exact (h.wv.ac hk).le q0
      · rw [ot k 2 hk (by decide)] at q0; rw [ot k 4 hk (by decide), lo2]; exact (h.wv.ac hk).pl q0
      · rw [ot k 2 hk (by decide)] at q0; rw [ot k 5 hk (by decide)]; exact (h.wv.ac hk).ca q0
      · rw [ot k 2 hk (by decide)] at q0
        rw [ot k 3 hk (by decide)] at h2
        by_cases eq : q = c
        · subst eq
          rw [C.2.2.2.1] at h2
          exact absurd ⟨q0, h2.symm⟩ (mOn_no hm hk)
        · rw [ot q 2 (by omega) (by decide)] at h1
          rw [ot q 3 (by omega) (by decide)] at h2
          exact (h.wv.ac hk).un q0 (by omega) h1 h2
  · rw [sAdm_e (by omega)]
    by_cases e15 : k = 15
    · subst e15; rw [up2_same]; exact mEn_13.symm
    · rw [up2_off (by omega)]
      by_cases e11 : k = 11
      · subst e11
        rw [up2_same, h.sc (k := 11) (by decide) (by decide)]
        exact mEn_9.symm
      · rw [up2_off (by omega), up2_off (by omega), up2_off (by omega), up2_off (by omega), up2_off (by omega), up2_off (by omega), up2_off (by omega), up2_off (by omega), up2_off (by omega), h.sc h4 h5]
        refine (mEn_lo rs_lt ⟨fun q => ?_, fun q => e11 (rs_inj (by decide) (by decide) h4 h5 q), fun q => e15 (rs_inj (by decide) (by decide) h4 h5 q)⟩).symm
        revert q
        unfold rs
        split <;> simp
  · by_cases e : k = c
    · subst e
      rw [sAdm_e (by omega)]
      refine ⟨?_, ?_, ?_, fun q0 => ⟨?_, ?_, ?_⟩, fun q0 => absurd C.2.2.1 q0⟩
      · rw [C.1, up2_off (by omega), up2_off (by omega), up2_off (by omega), up2_off (by omega), up2_off (by omega), up2_off (by omega), up2_off (by omega), up2_off (by omega), up2_same]
      · rw [C.2.1, up2_off (by omega), up2_off (by omega), up2_off (by omega), up2_off (by omega), up2_off (by omega), up2_off (by omega), up2_off (by omega), up2_same]
      · rw [C.2.2.1, up2_off (by omega), up2_off (by omega), up2_off (by omega), up2_off (by omega), up2_off (by omega), up2_off (by omega), up2_same]
      · rw [C.2.2.2.1, up2_off (by omega), up2_off (by omega), up2_off (by omega), up2_off (by omega), up2_off (by omega), up2_same]
      · rw [C.2.2.2.2.1, up2_off (by omega), up2_off (by omega), up2_off (by omega), up2_off (by omega), up2_same]
      · rw [C.2.2.2.2.2, up2_off (by omega), up2_off (by omega), up2_off (by omega), up2_same]
    · have hk : k < c := by omega
      refine ⟨?_, ?_, ?_, fun q0 => ⟨?_, ?_, ?_⟩, fun q0 => ?_⟩
      · rw [sAdm_j (by omega) e, ot0 k hk]; exact (h.ra hk).kd
      · rw [sAdm_j (by omega) e, ot k 1 hk (by decide)]; exact (h.ra hk).fu
      · rw [sAdm_j (by omega) e, ot k 2 hk (by decide)]; exact (h.ra hk).st
      · rw [ot k 2 hk (by decide)] at q0; rw [sAdm_j (by omega) e, ot k 3 hk (by decide)]; exact (h.ra hk).le q0
      · rw [ot k 2 hk (by decide)] at q0; rw [sAdm_j (by omega) e, ot k 4 hk (by decide)]; exact (h.ra hk).pl q0
      · rw [ot k 2 hk (by decide)] at q0; rw [sAdm_j (by omega) e, ot k 5 hk (by decide)]; exact (h.ra hk).ca q0
      · rw [ot k 2 hk (by decide)] at q0; rw [sAdm_j (by omega) e, ot k 6 hk (by decide)]; exact (h.ra hk).wh q0
  · rw [sAdm_e (by omega), up2_off (by omega), up2_off (by omega)]
    by_cases e : i = l
    · subst e
      rw [up2_same, mOn_s ((hon i).trans hm) ⟨C.2.2.1, C.2.2.2.1⟩]
      rfl
    · rw [up2_off (by omega), up2_off (by omega), up2_off (by omega), up2_off (by omega), up2_off (by omega), up2_off (by omega), up2_off (by omega), up2_off (by omega), h.ho hi]
      cases h1 : mOn v (nI i) c with
      | none => rw [mOn_n ((hon i).trans h1) (fun q => e ((nI_eq (by omega) (by omega)).mp (C.2.2.2.1.symm.trans q.2)).symm)]
      | some k => rw [mOn_le ((hon i).trans h1) (Nat.le_succ c)]
