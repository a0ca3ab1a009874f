/-! small changes; who lands next -/
theorem WV.of {v w : Nat → Int32} {lv c : Nat} (h : WV v lv c) (e : ∀ i, 14 ≤ i → w i = v i) (e1 : w 1 = v 1) (e2 : w 2 = v 2) (e3 : w 3 = v 3) (h4 : ∃ q, q ≤ 4 ∧ w 4 = nI q) (h5 : w 5 = 0 ∨ w 5 = 1) (h6 : w 6 = 0 ∨ w 6 = 1) : WV w lv c := by
  refine ⟨⟨⟨e1.trans h.mw.lv, h.mw.l16⟩, ⟨e3.trans h.mw.ct, h.mw.c20⟩, fun j hj => by rw [e _ (by omega)]; exact h.mw.kd hj⟩, h.l4, by rw [e2]; exact h.lap, h5, h6, h4, fun j hj => ⟨?_, ?_, fun h0 => ⟨?_, ?_, ?_, fun k hk h1 h2 => ?_⟩⟩⟩
  · rw [e _ (by omega)]; exact (h.ac hj).fu
  · rw [e _ (by omega)]; exact (h.ac hj).st
  · rw [e _ (by omega)] at h0 ⊢; exact (h.ac hj).le h0
  · rw [e _ (by omega)] at h0 ⊢; rw [e2]; exact (h.ac hj).pl h0
  · rw [e _ (by omega)] at h0 ⊢; exact (h.ac hj).ca h0
  · rw [e _ (by omega)] at h0 h1
    rw [e _ (by omega), e _ (by omega)] at h2
    exact (h.ac hj).un h0 hk h1 h2
theorem WV.upF {v : Nat → Int32} {lv c s : Nat} {x : Int32} (h : WV v lv c) (hs : s < 14) (h1 : s = 0 ∨ 7 ≤ s) : WV (upd v s x) lv c :=
  h.of (fun i hi => upd_n (by omega)) (upd_n (by omega)) (upd_n (by omega)) (upd_n (by omega)) (by rw [upd_n (by omega)]; exact h.wt) (by rw [upd_n (by omega)]; exact h.op) (by rw [upd_n (by omega)]; exact h.au)
theorem WV.up4 {v : Nat → Int32} {lv c q : Nat} (h : WV v lv c) (hq : q ≤ 4) : WV (upd v 4 (nI q)) lv c :=
  h.of (fun i hi => upd_n (by omega)) (upd_n (by omega)) (upd_n (by omega)) (upd_n (by omega)) ⟨q, hq, upd_s⟩ (by rw [upd_n (by omega)]; exact h.op) (by rw [upd_n (by omega)]; exact h.au)
theorem WV.up5 {v : Nat → Int32} {lv c : Nat} {x : Int32} (h : WV v lv c) (hx : x = 0 ∨ x = 1) : WV (upd v 5 x) lv c :=
  h.of (fun i hi => upd_n (by omega)) (upd_n (by omega)) (upd_n (by omega)) (upd_n (by omega)) (by rw [upd_n (by omega)]; exact h.wt) (by rw [upd_s]; exact hx) (by rw [upd_n (by omega)]; exact h.au)
theorem WV.up6 {v : Nat → Int32} {lv c : Nat} {x : Int32} (h : WV v lv c) (hx : x = 0 ∨ x = 1) : WV (upd v 6 x) lv c :=
  h.of (fun i hi => upd_n (by omega)) (upd_n (by omega)) (upd_n (by omega)) (upd_n (by omega)) (by rw [upd_n (by omega)]; exact h.wt) (by rw [upd_n (by omega)]; exact h.op) (by rw [upd_s]; exact hx)
theorem rs_tab : ∀ k, k < 16 → ∀ q, q < 16 → 4 ≤ k → 4 ≤ q → rs q = rs k → q = k := by decide
theorem rs_inj {k q : Nat} (h1 : 4 ≤ k) (h2 : k ≤ 15) (h3 : 4 ≤ q) (h4 : q ≤ 15) (h : rs q = rs k) : q = k := rs_tab k (by omega) q (by omega) h1 h3 h
theorem Rel.up {f : hMem} {v : Nat → Int32} {lv c k : Nat} {x : Int32} (h : Rel f v lv c) (h4 : 4 ≤ k) (h15 : k ≤ 15) (hw : WV (upd v (rs k) x) lv c) : Rel (up2 f 0 k x) (upd v (rs k) x) lv c := by
  have e : ∀ i, 14 ≤ i → upd v (rs k) x i = v i := fun i hi => upd_n (by have := rs_lt (k := k); omega)
  refine ⟨hw, h.sw.up (by omega) (by omega), fun q q4 q5 => ?_, fun j hj => ⟨?_, ?_, ?_, fun h0 => ⟨?_, ?_, ?_⟩, fun h0 => ?_⟩, fun i hi => ?_⟩
  · by_cases eq : q = k
    · subst eq; rw [up2_same, upd_s]
    · rw [up2_off (by omega), upd_n (fun q2 => eq (rs_inj h4 h15 q4 q5 q2))]; exact h.sc q4 q5
  · rw [up2_off (by omega), e _ (by omega)]; exact (h.ra hj).kd
  · rw [up2_off (by omega), e _ (by omega)]; exact (h.ra hj).fu
  · rw [up2_off (by omega), e _ (by omega)]; exact (h.ra hj).st
  · rw [e _ (by omega)] at h0; rw [up2_off (by omega), e _ (by omega)]; exact (h.ra hj).le h0
  · rw [e _ (by omega)] at h0; rw [up2_off (by omega), e _ (by omega)]; exact (h.ra hj).pl h0
  · rw [e _ (by omega)] at h0; rw [up2_off (by omega), e _ (by omega)]; exact (h.ra hj).ca h0
  · rw [e _ (by omega)] at h0; rw [up2_off (by omega), e _ (by omega)]; exact (h.ra hj).wh h0
  · rw [up2_off (by omega), h.ho hi]
    exact congrArg oI (mOn_c (fun j hj => ⟨(e _ (by omega)).symm, (e _ (by omega)).symm⟩))
theorem nI_gt0 {w : Nat} (hw : w < 2 ^ 31) : 0 < nI w ↔ 0 < w := nI_ltI (a := 0) (by decide) hw
theorem Rel.wait {f : hMem} {v : Nat → Int32} {lv c : Nat} (h : Rel f v lv c) : Rel (sWait f) (mW1 v) lv c := by
  obtain ⟨w, h1, h2⟩ := h.wv.wt
  have e : f 0 8 = nI w := (h.sc (k := 8) (by decide) (by decide)).trans h2
  unfold sWait mW1
  rw [e, h2]
  by_cases h0 : 0 < w
  · obtain ⟨u, rfl⟩ : ∃ u, w = u + 1 := ⟨w - 1, by omega⟩
    rw [if_pos ((nI_gt0 (by omega)).mpr h0), if_pos ((nI_gt0 (by omega)).mpr h0), nI_p1]
    exact h.up (k := 8) (by decide) (by decide) (h.wv.up4 (by omega))
  · obtain rfl : w = 0 := by omega
    rw [if_neg (fun q => h0 ((nI_gt0 (by omega)).mp q)), if_neg (fun q => h0 ((nI_gt0 (by omega)).mp q))]
    have e2 : upd v 4 (nI 0 - 0) = v := by
      funext i
      by_cases ei : i = 4
      · subst ei; rw [upd_s, h2]; rfl
      · rw [upd_n ei]
    rw [e2]
    exact h
/-- fuel and level as whole numbers; the order in which they land -/
def fuN (v : Nat → Int32) (j : Nat) : Nat := (v (14 + 7 * j + 1)).toNatClampNeg
def lvN (v : Nat → Int32) (j : Nat) : Nat := (v (14 + 7 * j + 3)).toNatClampNeg
def kyN (v : Nat → Int32) (j : Nat) : Nat := fuN v j * 16 + lvN v j
theorem fuN_e {v : Nat → Int32} {lv c j : Nat} (h : WV v lv c) (hj : j < c) : v (14 + 7 * j + 1) = nI (fuN v j) ∧ fuN v j ≤ 9999 := by
  obtain ⟨u, h1, h2⟩ := (h.ac hj).fu
  unfold fuN
  rw [h2, nI_clamp (by omega)]
  exact ⟨rfl, h1⟩
theorem lvN_e {v : Nat → Int32} {lv c j : Nat} (h : WV v lv c) (hj : j < c) (h0 : v (14 + 7 * j + 2) = 0) : v (14 + 7 * j + 3) = nI (lvN v j) ∧ lvN v j < lv := by
  obtain ⟨l, h1, h2⟩ := (h.ac hj).le h0
  have := h.mw.l16
  unfold lvN
  rw [h2, nI_clamp (by omega)]
  exact ⟨rfl, h1⟩
def cd (v : Nat → Int32) (j : Nat) : Prop := mOv v j = true ∧ mSh v j = true
theorem cd_0 {v : Nat → Int32} {j : Nat} (h : cd v j) : v (14 + 7 * j + 2) = 0 := (of_decide_eq_true h.1).1
theorem ky_inj {v : Nat → Int32} {lv c j k : Nat} (h : WV v lv c) (hj : j < c) (hk : k < c) (h0 : v (14 + 7 * j + 2) = 0) (h1 : v (14 + 7 * k + 2) = 0) (e : kyN v k = kyN v j) : k = j := by
  have a := lvN_e h hj h0
  have b := lvN_e h hk h1
  have := h.mw.l16
  unfold kyN at e
  refine (h.ac hj).un h0 hk h1 ?_
  rw [a.1, b.1, show lvN v k = lvN v j by omega]
theorem mFar_e {v : Nat → Int32} {lv c a j : Nat} (h : WV v lv c) (ha : a < c) (hj : j < c) (h0 : v (14 + 7 * a + 2) = 0) (h1 : v (14 + 7 * j + 2) = 0) : mFar v a (some j) = true ↔ kyN v a < kyN v j := by
  have a1 := fuN_e h ha
  have b1 := fuN_e h hj
  have a2 := lvN_e h ha h0
  have b2 := lvN_e h hj h1
  have hl := h.mw.l16
  have e : mFar v a (some j) = decide (v (14 + 7 * a + 1) - v (14 + 7 * j + 1) < 0 ∨ (v (14 + 7 * a + 1) - v (14 + 7 * j + 1) = 0 ∧ v (14 + 7 * a + 3) < v (14 + 7 * j + 3))) := rfl
  unfold kyN
  rw [e, a1.1, b1.1, a2.1, b2.1, decide_eq_true_iff]
  have t : (nI (fuN v a) - nI (fuN v j)).toInt = (fuN v a : Int) - (fuN v j : Int) := by
    rw [Int32.toInt_sub, nI_toInt (by omega), nI_toInt (by omega), Int.bmod_eq_of_le (by omega) (by omega)]
  have z : (0 : Int32).toInt = 0 := by decide
  rw [Int32.lt_iff_toInt_lt, ← Int32.toInt_inj, t, z, nI_ltI (by omega) (by omega)]
  omega
theorem mLb_at {v : Nat → Int32} {lv c : Nat} (h : WV v lv c) {a : Nat} (ha : a ≤ c) : (mLb v a = none → ∀ k, k < a → ¬ cd v k) ∧ ∀ b, mLb v a = some b → b < a ∧ cd v b ∧ ∀ k, k < a → cd v k → kyN v b ≤ kyN v k := by
  induction a with
  | zero => exact ⟨fun _ k hk => absurd hk (Nat.not_lt_zero _), fun b hb => by cases hb⟩
  | succ a ih =>
    obtain ⟨i1, i2⟩ := ih (by omega)
    by_cases hc : cd v a
    · cases hq : mLb v a with
      | none =>
        rw [mLb_t ⟨hc.1, hc.2, by rw [hq]; rfl⟩]
        refine ⟨fun e => (by cases e), fun b hb => ?_⟩
        cases hb
        refine ⟨Nat.lt_succ_self a, hc, fun k hk hck => ?_⟩
        by_cases e : k = a
        · subst e; exact Nat.le_refl _
        · exact absurd hck (i1 hq k (by omega))
      | some j =>
        have hj := i2 j hq
        have hf := mFar_e h (show a < c by omega) (show j < c by omega) (cd_0 hc) (cd_0 hj.2.1)
        by_cases hlt : kyN v a < kyN v j
        · rw [mLb_t ⟨hc.1, hc.2, by rw [hq]; exact hf.mpr hlt⟩]
          refine ⟨fun e => (by cases e), fun b hb => ?_⟩
          cases hb
          refine ⟨Nat.lt_succ_self a, hc, fun k hk hck => ?_⟩
          by_cases e : k = a
          · subst e; exact Nat.le_refl _
          · have := hj.2.2 k (by omega) hck; omega
        · rw [mLb_f (fun q => hlt (hf.mp (by have := q.2.2; rwa [hq] at this))), hq]
          refine ⟨fun e => (by cases e), fun b hb => ?_⟩
          cases hb
          refine ⟨by omega, hj.2.1, fun k hk hck => ?_⟩
          by_cases e : k = a
          · subst e; omega
          · exact hj.2.2 k (by omega) hck
    · rw [mLb_f (fun q => hc ⟨q.1, q.2.1⟩)]
      refine ⟨fun e k hk hck => ?_, fun b hb => ?_⟩
      · by_cases ek : k = a
        · subst ek; exact hc hck
        · exact i1 e k (by omega) hck
      · have := i2 b hb
        refine ⟨by omega, this.2.1, fun k hk hck => ?_⟩
        by_cases ek : k = a
        · subst ek; exact absurd hck hc
        · exact this.2.2 k (by omega) hck
theorem nx_at {f : hMem} {v : Nat → Int32} {lv c : Nat} (h : Rel f v lv c) {i : Nat} (hi : i ≤ lv) : (nx f i = none → ∀ k, k < c → cd v k → ¬ lvN v k < i) ∧
    ∀ b, nx f i = some b → b < c ∧ cd v b ∧ lvN v b < i ∧ ∀ k, k < c → cd v k → lvN v k < i → kyN v b ≤ kyN v k := by
  have hl16 := h.sw.l16
  induction i with
  | zero => exact ⟨fun _ k _ _ hk => absurd hk (Nat.not_lt_zero _), fun b hb => by cases hb⟩
  | succ i ih =>
    obtain ⟨i1, i2⟩ := ih (by omega)
    have hs := h.on (show i < lv by omega)
    cases hm : mOn v (nI i) c with
    | none =>
      rw [nx_none (hs.trans hm)]
      have hno : ∀ k, k < c → cd v k → lvN v k < i + 1 → lvN v k < i := fun k hk hck hlt => by
        have := (lvN_e h.wv hk (cd_0 hck)).1
        by_cases e : lvN v k = i
        · rw [e] at this; exact absurd ⟨cd_0 hck, this⟩ (mOn_no hm hk)
        · omega
      exact ⟨fun e k hk hck hlt => i1 e k hk hck (hno k hk hck hlt), fun b hb => ⟨(i2 b hb).1, (i2 b hb).2.1, by have := (i2 b hb).2.2.1; omega, fun k hk hck hlt => (i2 b hb).2.2.2 k hk hck (hno k hk hck hlt)⟩⟩
    | some j =>
      have hj := mOn_lt hm
      have ha := h.ra hj.1
      have hlj : lvN v j = i := (nI_eq (by have := (lvN_e h.wv hj.1 hj.2.1).2; omega) (by omega)).mp ((lvN_e h.wv hj.1 hj.2.1).1.symm.trans hj.2.2)
      have hon : ∀ k, k < c → cd v k → lvN v k < i + 1 → lvN v k < i ∨ k = j := fun k hk hck hlt => by
        by_cases e : lvN v k = i
        · refine Or.inr ((h.wv.ac hj.1).un hj.2.1 hk (cd_0 hck) ?_)
          rw [(lvN_e h.wv hk (cd_0 hck)).1, (lvN_e h.wv hj.1 hj.2.1).1, e, hlj]
        · omega
      rw [nx_some (hs.trans hm)]
      unfold nxs
      rw [ha.pl hj.2.1, ha.fu, ha.kd]
      by_cases hc : cd v j
      · have hp : v (14 + 7 * j + 4) = 0 := (of_decide_eq_true hc.1).2
        have hf : v (14 + 7 * j + 1) ≤ kRes (v (14 + 7 * j)) := of_decide_eq_true hc.2
        by_cases hq : ∀ p, nx f i = some p → v (14 + 7 * j + 1) < f (3 + p) 2
        · rw [if_pos ⟨hp, hf, hq⟩]
          refine ⟨fun e => (by cases e), fun b hb => ?_⟩
          cases hb
          refine ⟨hj.1, hc, by omega, fun k hk hck hlt => ?_⟩
          rcases hon k hk hck hlt with e | e
          · cases hx : nx f i with
            | none => exact absurd e (i1 hx k hk hck)
            | some p =>
              have hp2 := i2 p hx
              have h3 := hp2.2.2.2 k hk hck e
              have h4 := hq p hx
              rw [(h.ra hp2.1).fu, (fuN_e h.wv hj.1).1, (fuN_e h.wv hp2.1).1, nI_ltI (by have := (fuN_e h.wv hj.1).2; omega) (by have := (fuN_e h.wv hp2.1).2; omega)] at h4
              unfold kyN at h3 ⊢
              omega
          · subst e; exact Nat.le_refl _
        · rw [if_neg (fun q => hq q.2.2)]
          cases hx : nx f i with
          | none => exact absurd (fun p hp => nomatch (hx.symm.trans hp)) hq
          | some p =>
            have hp2 := i2 p hx
            have h4 : ¬ fuN v j < fuN v p := fun e => hq (fun p2 hp3 => by
              cases hx.symm.trans hp3
              rw [(h.ra hp2.1).fu, (fuN_e h.wv hj.1).1, (fuN_e h.wv hp2.1).1, nI_ltI (by have := (fuN_e h.wv hj.1).2; omega) (by have := (fuN_e h.wv hp2.1).2; omega)]
              exact e)
            refine ⟨fun e => (by cases e), fun b hb => ?_⟩
            cases hb
            refine ⟨hp2.1, hp2.2.1, by have := hp2.2.2.1; omega, fun k hk hck hlt => ?_⟩
            rcases hon k hk hck hlt with e | e
            · exact hp2.2.2.2 k hk hck e
            · subst e
              have := hp2.2.2.1
              unfold kyN
              omega
      · have hg : ¬ (v (14 + 7 * j + 4) = 0 ∧ v (14 + 7 * j + 1) ≤ kRes (v (14 + 7 * j)) ∧ ∀ p, nx f i = some p → v (14 + 7 * j + 1) < f (3 + p) 2) := fun q => hc ⟨decide_eq_true ⟨hj.2.1, q.1⟩, decide_eq_true q.2.1⟩
        rw [if_neg hg]
        have hno : ∀ k, k < c → cd v k → lvN v k < i + 1 → lvN v k < i := fun k hk hck hlt => (hon k hk hck hlt).elim id (fun e => absurd (e ▸ hck) hc)
        exact ⟨fun e k hk hck hlt => i1 e k hk hck (hno k hk hck hlt), fun b hb => ⟨(i2 b hb).1, (i2 b hb).2.1, by have := (i2 b hb).2.2.1; omega, fun k hk hck hlt => (i2 b hb).2.2.2 k hk hck (hno k hk hck hlt)⟩⟩
def nx0 (f : hMem) (i : Nat) : Option Nat := nx f i
theorem Rel.nx {f : hMem} {v : Nat → Int32} {lv c : Nat} (h : Rel f v lv c) : nx0 f lv = mLb v c := by
  have a0 := nx_at h (Nat.le_refl lv)
  obtain ⟨a1, a2⟩ := a0
  obtain ⟨b1, b2⟩ := mLb_at h.wv (Nat.le_refl c)
  cases hx : mLb v c with
  | none =>
    cases hy : nx0 f lv with
    | none => rfl
    | some p => exact absurd (a2 p hy).2.1 (b1 hx p (a2 p hy).1)
  | some b =>
    have hb := b2 b hx
    cases hy : nx0 f lv with
    | none => exact absurd (lvN_e h.wv hb.1 (cd_0 hb.2.1)).2 (a1 hy b hb.1 hb.2.1)
    | some p =>
      have hp := a2 p hy
      have h1 := hb.2.2 p hp.1 hp.2.1
      have h2 := hp.2.2.2 b hb.1 hb.2.1 (lvN_e h.wv hb.1 (cd_0 hb.2.1)).2
      rw [ky_inj h.wv hb.1 hp.1 (cd_0 hb.2.1) (cd_0 hp.2.1) (by omega)]
