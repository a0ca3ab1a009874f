/-! calls of both worlds: entering, calling, passing, looking -/
section STP2
variable {l : Launch} {z : hZt} {M : hMem} {R : hRef} {lv c q L : Nat} {y6 y7 : hYd} {As : List Value} {a : Int32}
theorem Cll.plain (h : Inv M R lv c q L) {M1 M2 : hMem} {lv2 c2 : Nat} (e : ∀ a k, fr a k → M2 a k = M a k) (e1 : M2 213 1 = M 213 1) (hA : KN (getS M2 24)) (hr : Rel (getS M2 1) (M2 216) lv2 c2)
    (h6 : hCt l z y6 (.ref (z.1 + 0) :: As) 226 M R 226 (some (.int a)) M1 R) (h7 : hCt l z y7 (.ref (z.1 + 215) :: As) 226 M1 R 226 (some (.int a)) M2 R) : Cll l z M R y6 y7 As :=
  ⟨a, M1, M2, R, lv2, c2, q, L, h6, h7, h.same e e1 hA hr⟩
theorem mCw_ok {v : Nat → Int32} {j : Nat} (b : ¬ mCw v j < 0) : mCw v j = 0 ∧ v (14 + 7 * j + 2) = 0 := by
  unfold mCw at b ⊢
  by_cases q : ¬ v (14 + 7 * j + 2) = 0 ∨ v (14 + 7 * j + 3) = 0 ∨ v (14 + 7 * j + 5) = 1
  · rw [if_pos q] at b; exact absurd (by decide) b
  · rw [if_neg q]
    exact ⟨rfl, Classical.not_not.mp (fun x => q (Or.inl x))⟩
theorem row_1 {X : hMem} {w : Nat → Int32} : getS (putRow X 216 w) 1 = getS X 1 := getS_eq (fun i k hi => pRo (by omega))
theorem row_24 {X : hMem} {w : Nat → Int32} : getS (putRow X 216 w) 24 = getS X 24 := getS_eq (fun i k hi => pRo (by omega))
theorem row_is {X : hMem} {i : Nat} {w : Nat → Int32} : putRow X i w i = w := funext fun k => pRs
theorem s_enter (h : Inv M R lv c q L) (x fu y : Int32) : Cll l z M R m_X6_enter m_X7_enter [.int x, .int fu, .int y] := by
  have hc := h.rl.sw.c20
  have hw := h.rl.ew (x := x) (fu := fu) (y := y)
  by_cases d : mEw (M 216) x fu y < 0
  · have k := c0_X6_enter l z h.gs h.rl.sw (kd := x) (fuel := fu) (lev := y) (by rw [hw.1 d]; intro e; have e2 : mEw (M 216) x fu y = 0 := e; rw [e2] at d; exact absurd d (by decide))
    rw [hw.1 d] at k
    exact Cll.idle h k (c0_X7_enter l z h.gm d)
  · by_cases b : 0 < mRf (M 216) c x fu y
    · have hb := (hw.2 d).1 b
      have n5 : ¬ (-5 : Int32) = 0 := by decide
      have k := c0_X6_enter l z h.gs h.rl.sw (kd := x) (fuel := fu) (lev := y) (by rw [hb]; exact n5)
      rw [hb] at k
      have e16 : up2 M 1 15 (mRf (M 216) c x fu y) 216 = M 216 := funext fun i => up2_off (fun e => absurd e.1 (by decide))
      have cr : CR (up2 M 1 15 (mRf (M 216) c x fu y)) := h.cr.of (fun i k hi => up2_off (by omega))
      have m := c1_X7_enter l z h.gm h.rl.wv.mw cr d b
      have es : putRow (up2 M 1 15 (mRf (M 216) c x fu y)) 216 (M 216) = up2 M 1 15 (mRf (M 216) c x fu y) := by rw [← e16]; exact putRow_self
      rw [es] at m
      refine Cll.plain (lv2 := lv) (c2 := c) h (fun a k hf => ?_) ?_ ?_ ?_ k m
      · rw [pRo hf.2.2.1, up2_off (by have := hf.1; omega)]
      · rw [pRo (by decide), up2_off (fun e => absurd e.1 (by decide))]
      · rw [row_24, getS_up (Or.inl (by decide))]; exact h.a24
      · rw [row_1, row_is]
        exact Rel.upM (i := 0) (by decide) (h.rl.up (k := 15) (by decide) (by decide) (h.rl.wv.upF (by decide) (Or.inr (by decide))))
    · have hb := (hw.2 d).2 b
      have ok := mEw_ok d
      obtain ⟨i, hl, el⟩ := (mLv_n h.rl.wv.mw).mp ok.2.1
      obtain ⟨u, hu, eu⟩ := bIn_fu ok.2.2.1
      have hc20 : c < 20 := by
        have hne := ok.2.2.2
        rw [h.rl.wv.mw.ct] at hne
        by_cases e : c = 20
        · subst e; exact absurd (by decide) hne
        · omega
      have hm := oI_6 (mRf_n hb.2) (fun j hj => by have := mOn_lt hj; omega)
      have hr : Rel (sAdm (getS M 1) c x fu y) (mEn (M 216) c x fu y) lv (c + 1) := by
        rw [eu, el]
        rw [el] at hm
        exact h.rl.en hc20 (bIn_hk ok.1) hu hl hm
      exact Cll.note h eSx hr.put (c_X6_enter l z h.gs h.rl.sw h.qc h.q5 (by rw [hb.1]) hc20) (fun gM cr hq => c_X7_enter l z gM h.rl.wv.mw cr h.q5 hq d b)
theorem s_call (h : Inv M R lv c q L) (x : Int32) : Cll l z M R m_X6_call m_X7_call [.int x] := by
  have hc := h.rl.sw.c20
  by_cases d : mCr (M 216) x = true
  · obtain ⟨j, hj, rfl⟩ := mCr_ok h.rl.wv.mw d
    have cw := h.rl.cw hj
    by_cases b : mCw (M 216) j < 0
    · have n0 : ¬ cCl M (nI j) = 0 := by rw [cw]; intro e; rw [e] at b; exact absurd b (by decide)
      have k := c0_X6_call l z h.gs n0
      rw [cw] at k
      exact Cll.idle h k (c0_X7_call l z h.gm h.rl.wv.mw hj b)
    · have e0 := mCw_ok b
      have k := c_X6_call l z h.gs h.rl.sw h.qc h.q5 (cw.trans e0.1) (sNum_n h.rl.sw hj)
      rw [(h.rl.ra hj).le e0.2] at k
      exact Cll.note h eSx (h.rl.cal hj e0.2).put k (fun gM _ hq => c_X7_call l z gM h.rl.wv.mw h.q5 hq hj b)
  · have d2 := (Bool.not_eq_true _).mp d
    have e1 : cCl M x = -1 := by unfold cCl; rw [h.rl.nm d2]
    have n0 : ¬ cCl M x = 0 := by rw [e1]; decide
    have k := c0_X6_call l z h.gs n0
    rw [e1] at k
    exact Cll.idle h k (c1_X7_call l z h.gm d2)
theorem s_pass (h : Inv M R lv c q L) (x : Int32) : Cll l z M R m_X6_pass m_X7_pass [.int x] := by
  rcases bIn_or (x := x) (a := 1) (b := 99) with e | ⟨h1, h2⟩
  · exact Cll.idle h (c0_X6_pass l z h.gs e) (c0_X7_pass l z h.gm (bIn_f e))
  · obtain ⟨i, i4, i16, rfl⟩ := rng h1 h2 (a := 1) (b := 99) (by decide) (by decide)
    have k := c_X6_pass l z h.gs h.rl.sw h.qc h.q5 h1 h2
    have hm := h.rl.mn i
    rw [nI_clamp (by omega), hm.1] at k
    exact Cll.note h eSx hm.2.put k (fun gM cr hq => c_X7_pass l z gM h.rl.wv.mw cr h.l1 h.q5 hq (by omega) (bIn_t h1 h2))
theorem s_level (h : Inv M R lv c q L) (x : Int32) : Cll l z M R m_X6_level m_X7_level [.int x] := by
  have k := c_X6_level l z h.gs h.rl.sw x
  rw [h.rl.level x] at k
  exact Cll.idle h k (c_X7_level l z h.gm h.rl.wv.mw x)
theorem bIn_rng {x lo hi : Int32} {a b : Nat} (h : bIn x lo hi = true) (ha : lo.toInt = (a : Int)) (hb : hi.toInt = (b : Int)) : ∃ i, a ≤ i ∧ i ≤ b ∧ x = nI i := by
  have h := of_decide_eq_true h
  exact rng (Int32.not_lt.mpr h.1) h.2 ha hb
theorem bIn_no {x lo hi : Int32} (h : bIn x lo hi = false) : x < lo ∨ hi < x := by
  have h := of_decide_eq_false h
  by_cases e : lo ≤ x
  · exact Or.inr (Int32.not_le.mp (fun q => h ⟨e, q⟩))
  · exact Or.inl (Int32.not_le.mp e)
theorem up_1 {x lo hi : Int32} {b : Nat} (h : x < 0 ∨ lo < x) (hb : lo.toInt = (b : Int)) (hh : hi.toInt = (b : Int) + 1) : x < 0 ∨ hi ≤ x := by
  rcases h with h | h
  · exact Or.inl h
  · have := Int32.lt_iff_toInt_lt.mp h
    exact Or.inr (Int32.le_iff_toInt_le.mpr (by omega))
theorem s_aircraft (h : Inv M R lv c q L) (x y : Int32) : Cll l z M R m_X6_aircraft m_X7_aircraft [.int x, .int y] := by
  have hc := h.rl.sw.c20
  have k := c_X6_aircraft l z h.gs h.rl.sw x y
  by_cases d : mCr (M 216) x = true
  · obtain ⟨j, hj, rfl⟩ := mCr_ok h.rl.wv.mw d
    by_cases b : bIn y 0 7 = true
    · obtain ⟨w, -, w7, rfl⟩ := bIn_rng b (a := 0) (b := 7) (by decide) (by decide)
      rw [h.rl.craft hj (show w < 8 by omega)] at k
      exact Cll.idle h k (c_X7_aircraft l z h.gm h.rl.wv.mw h.cr hj (by omega) b)
    · have b2 := (Bool.not_eq_true _).mp b
      have e1 : hAc M (nI j) y = -1 := by
        unfold hAc
        rw [sNum_n h.rl.sw hj]
        exact if_pos (up_1 (bIn_no b2) (b := 7) (by decide) (by decide))
      rw [e1] at k
      exact Cll.idle h k (c0_X7_aircraft l z h.gm (fun q => b q.2))
  · have d2 := (Bool.not_eq_true _).mp d
    have e1 : hAc M x y = -1 := by
      unfold hAc
      rw [h.rl.nm d2]
    rw [e1] at k
    exact Cll.idle h k (c0_X7_aircraft l z h.gm (fun q => d q.1))
theorem s_tell (h : Inv M R lv c q L) (x : Int32) : Cll l z M R m_X6_tell m_X7_tell [.int x] := by
  have k := c_X6_tell l z h.gs h.rl.sw x
  by_cases b : bIn x 0 17 = true
  · obtain ⟨w, -, w7, rfl⟩ := bIn_rng b (a := 0) (b := 17) (by decide) (by decide)
    rw [h.rl.tell h.qc (show w < 18 by omega)] at k
    exact Cll.idle h k (c_X7_tell l z h.gm h.rl.wv.mw h.qm (by omega) b)
  · have b2 := (Bool.not_eq_true _).mp b
    have e1 : hTl M c x = -1 := by
      unfold hTl
      exact if_pos (up_1 (bIn_no b2) (b := 17) (by decide) (by decide))
    rw [e1] at k
    exact Cll.idle h k (c0_X7_tell l z h.gm b2)
theorem s_why (h : Inv M R lv c q L) (x : Int32) : Cll l z M R m_X6_why m_X7_why [.int x] := by
  have k := c_X6_why l z h.gs h.rl.sw x
  by_cases d : mCr (M 216) x = true
  · obtain ⟨j, hj, rfl⟩ := mCr_ok h.rl.wv.mw d
    rw [h.rl.why hj] at k
    exact Cll.idle h k (c_X7_why l z h.gm h.rl.wv.mw h.cr hj)
  · have d2 := (Bool.not_eq_true _).mp d
    have e1 : hWhy M x = -1 := by unfold hWhy; rw [h.rl.nm d2]
    rw [e1] at k
    exact Cll.idle h k (c0_X7_why l z h.gm d2)
theorem s_endurance (h : Inv M R lv c q L) (x : Int32) : Cll l z M R m_X6_endurance m_X7_endurance [.int x] := by
  have k := c_X6_endurance l z h.gs h.rl.sw x
  by_cases d : mCr (M 216) x = true
  · obtain ⟨j, hj, rfl⟩ := mCr_ok h.rl.wv.mw d
    rw [h.rl.endu hj] at k
    exact Cll.idle h k (c2_X7_endurance l z h.gm h.rl.wv.mw h.cr hj (fun h0 => mBurn_0 h.rl.wv hj h0))
  · have d2 := (Bool.not_eq_true _).mp d
    have e1 : hEnu M x = -1 := by unfold hEnu; rw [h.rl.nm d2]
    rw [e1] at k
    exact Cll.idle h k (c0_X7_endurance l z h.gm d2)
end STP2
