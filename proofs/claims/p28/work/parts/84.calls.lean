/-! the calls of the class, over the rows that tell its state -/
theorem g0b {M : hMem} {b k : Nat} : M b k = getS M b 0 k := getS_0.symm
theorem bIn_f {x a b : Int32} (h : x < a ∨ b < x) : bIn x a b = false := by
  unfold bIn
  refine decide_eq_false (fun q => ?_)
  rcases h with h | h
  · exact Int32.not_le.mpr h q.1
  · exact Int32.not_le.mpr h q.2
theorem bIn_t {x a b : Int32} (h1 : ¬ x < a) (h2 : x ≤ b) : bIn x a b = true := decide_eq_true ⟨Int32.not_lt.mp h1, h2⟩
theorem mCw_ok {v : Nat → Int32} {j : Nat} (b : ¬ mCw v j < 0) : mCw v j = 0 ∧ v (14 + 7 * j + 2) = 0 := by
  unfold mCw at b ⊢
  by_cases q : ¬ v (14 + 7 * j + 2) = 0 ∨ v (14 + 7 * j + 3) = 0 ∨ v (14 + 7 * j + 5) = 1
  · rw [if_pos q] at b; exact absurd (by decide) b
  · rw [if_neg q]
    exact ⟨rfl, Classical.not_not.mp (fun x => q (Or.inl x))⟩
theorem SWla {lv c : Nat} {x : Int32} : ∀ (k : Nat) (b : Int32) (f : hMem), SW f lv c → SW (laS lv c x k b f).2 lv c
  | 0, _, _, h => h
  | k + 1, b, f, h => by
    rw [laS]
    have h2 := SWpass h
    split
    · split
      · exact SWla k _ _ h2
      · split
        · exact h2
        · exact SWla k _ _ h2
    · exact h
theorem eSx {X f : hMem} : ∀ a k, 24 ≤ a → a ≠ 213 → putS X 1 f a k = X a k := fun a k ha _ => pSo (by omega)
theorem eUx {X : hMem} {k2 : Nat} {x : Int32} : ∀ a k, 24 ≤ a → a ≠ 213 → up2 X 1 k2 x a k = X a k := fun a k ha _ => up2_off (by omega)
theorem nI_nge {a b : Nat} (ha : a < 2 ^ 31) (hb : b < 2 ^ 31) (h : b ≤ a) : ¬ nI a < nI b := fun e => by have := (nI_ltI ha hb).mp e; omega
theorem nI_le2 {a b : Nat} (ha : a < 2 ^ 31) (hb : b < 2 ^ 31) (h : a ≤ b) : nI a ≤ nI b := (nI_leI ha hb).mpr h
theorem nI_jj {a b : Nat} (ha : a < 2 ^ 31) (hb : b < 2 ^ 31) (h : nI a = nI b) : a = b := (nI_eq ha hb).mp h
section PIC
variable {l : Launch} {z : hZt} {M : hMem} {R : hRef} {v : gRow} {lv c q : Nat} {H : Nat → gRow} {K : Nat → Option gRow}
theorem PI.fore (h : PI M R v lv c q H K) {g : hMem} (hg : KN g) : PI (putS M 24 g) R v lv c q H K := by
  refine h.same (fun a k h1 h2 => pSo (by omega)) (hg.eq23 (fun i k hi => getS_same hi)) ?_
  rw [getS_put (Or.inl (by decide))]
  exact h.rl
theorem t_tell (h : PI M R v lv c q H K) {w : Nat} (hw : w < 18) : hCt l z m_X6_tell [.ref (z.1 + 0), .int (nI w)] 215 M R 215 (some (.int (mTl v q c w))) M R := by
  have k := c_X6_tell l z h.gs h.sw (nI w)
  rw [h.rl.tell h.qc hw] at k
  exact k
theorem t_tellx (h : PI M R v lv c q H K) : hCt l z m_X6_tell [.ref (z.1 + 0), .int (nI 18)] 215 M R 215 (some (.int (-1))) M R := by
  have k := c_X6_tell l z h.gs h.sw (nI 18)
  rw [show hTl M c (nI 18) = -1 from if_pos (Or.inr (by decide))] at k
  exact k
theorem t_air (h : PI M R v lv c q H K) {j w : Nat} (hj : j < c) (hw : w < 8) : hCt l z m_X6_aircraft [.ref (z.1 + 0), .int (nI j), .int (nI w)] 215 M R 215 (some (.int (mCt v j w))) M R := by
  have k := c_X6_aircraft l z h.gs h.sw (nI j) (nI w)
  rw [h.rl.craft hj hw] at k
  exact k
theorem sNum_c {f : hMem} {lv c : Nat} (h : SW f lv c) : sNum f (nI c) = none := by
  have h20 := h.c20
  unfold sNum
  rw [h.ct, if_neg (fun e => nI_nge (by omega) (by omega) (Nat.le_refl c) e.2.1)]
theorem t_airx (h : PI M R v lv c q H K) (y : Int32) : hCt l z m_X6_aircraft [.ref (z.1 + 0), .int (nI c), .int y] 215 M R 215 (some (.int (-1))) M R := by
  have k := c_X6_aircraft l z h.gs h.sw (nI c) y
  rw [show hAc M (nI c) y = -1 from by unfold hAc; rw [sNum_c h.sw]] at k
  exact k
theorem t_level (h : PI M R v lv c q H K) (x : Int32) : hCt l z m_X6_level [.ref (z.1 + 0), .int x] 215 M R 215 (some (.int (mLe v c x))) M R := by
  have k := c_X6_level l z h.gs h.sw x
  rw [h.rl.level x] at k
  exact k
theorem t_why (h : PI M R v lv c q H K) {j : Nat} (hj : j < c) : hCt l z m_X6_why [.ref (z.1 + 0), .int (nI j)] 215 M R 215 (some (.int (mWy v c j))) M R := by
  have k := c_X6_why l z h.gs h.sw (nI j)
  rw [h.rl.why hj] at k
  exact k
theorem t_whyx (h : PI M R v lv c q H K) : hCt l z m_X6_why [.ref (z.1 + 0), .int (nI c)] 215 M R 215 (some (.int (-1))) M R := by
  have k := c_X6_why l z h.gs h.sw (nI c)
  rw [show hWhy M (nI c) = -1 from by unfold hWhy; rw [sNum_c h.sw]] at k
  exact k
theorem t_endu (h : PI M R v lv c q H K) {j : Nat} (hj : j < c) : hCt l z m_X6_endurance [.ref (z.1 + 0), .int (nI j)] 215 M R 215 (some (.int (mEu v j))) M R := by
  have k := c_X6_endurance l z h.gs h.sw (nI j)
  rw [h.rl.endu hj] at k
  exact k
theorem t_endux (h : PI M R v lv c q H K) : hCt l z m_X6_endurance [.ref (z.1 + 0), .int (nI c)] 215 M R 215 (some (.int (-1))) M R := by
  have k := c_X6_endurance l z h.gs h.sw (nI c)
  rw [show hEnu M (nI c) = -1 from by unfold hEnu; rw [sNum_c h.sw]] at k
  exact k
theorem KN_fc (h : PI M R v lv c q H K) : KN (fcS lv c 600 (aC M c)) := (SWfc 600 (h.rl.ahd h.a24).sw).kn
theorem t_ml (h : PI M R v lv c q H K) {j : Nat} (hj : j < c) : ∃ M2, hCt l z m_X6_minutesLeft [.ref (z.1 + 0), .int (nI j)] 215 M R 215 (some (.int (mLm v lv c j))) M2 R ∧ PI M2 R v lv c q H K := by
  have k := c_X6_minutesLeft l z h.gs h.sw h.a24 (sNum_n h.sw hj)
  rw [h.rl.fm h.a24 hj] at k
  exact ⟨_, k, h.fore (KN_fc h)⟩
theorem t_lw (h : PI M R v lv c q H K) {j : Nat} (hj : j < c) : ∃ M2, hCt l z m_X6_landsWith [.ref (z.1 + 0), .int (nI j)] 215 M R 215 (some (.int (mLf v lv c j))) M2 R ∧ PI M2 R v lv c q H K := by
  have k := c_X6_landsWith l z h.gs h.sw h.a24 (sNum_n h.sw hj)
  rw [h.rl.lw h.a24 hj] at k
  exact ⟨_, k, h.fore (KN_fc h)⟩
theorem t_la (h : PI M R v lv c q H K) : ∃ M2, hCt l z m_X6_lands [.ref (z.1 + 0), .int (nI 0)] 215 M R 215 (some (.int (oI (mLx v lv c 600 0 0)))) M2 R ∧ PI M2 R v lv c q H K := by
  have k := c_X6_lands l z h.gs h.sw h.a24 (x := nI 0) (by decide)
  have ha := h.rl.ahd h.a24
  rw [ha.lands (nI 0)] at k
  exact ⟨_, k, h.fore (SWla 600 0 _ ha.sw).kn⟩
theorem t_ck (h : PI M R v lv c q H K) : ∃ M2, hCt l z m_X6_checksum [.ref (z.1 + 0)] 215 M R 215 (some (.long (mCk v q lv c))) M2 R ∧ PI M2 R v lv c q H K := by
  have k := c_X6_checksum l z h.gs h.sw h.a24
  rw [h.rl.ck h.a24 h.qc] at k
  exact ⟨_, k, h.fore (KN_fc h)⟩
theorem t_best (h : PI M R v lv c q H K) {x : Int32} {u : Nat} (hx : hk x) (h1 : 1 ≤ u) (hu : u ≤ 9999) : ∃ a M2, hCt l z m_X6_bestLevel [.ref (z.1 + 0), .int x, .int (nI u)] 215 M R 215 (some (.int a)) M2 R ∧ PI M2 R v lv c q H K ∧ ((c = 20 ∧ a = -4) ∨ (c < 20 ∧ a = oI (mBe v lv c x (nI u) lv).1)) := by
  have h20 := h.sw.c20
  have hb : bFuel (nI u) = true := decide_eq_true ⟨nI_le2 (a := 1) (by decide) (by omega) h1, nI_le2 (b := 9999) (by omega) (by decide) hu⟩
  by_cases e : c = 20
  · have k := c0_X6_bestLevel l z h.gs (kd := x) (fuel := nI u) (Or.inr (Or.inr (by rw [h.rl.fl, h.rl.wv.mw.ct, e]; rfl)))
    have eb : blE (getS M 1) x (nI u) = -4 := by
      unfold blE
      rw [bK_t hx, hb]
      rfl
    rw [eb] at k
    exact ⟨_, _, k, h, Or.inl ⟨e, rfl⟩⟩
  · have hc20 : c < 20 := by omega
    have k := c_X6_bestLevel l z h.gs h.sw h.a24 hx hb hc20
    rw [(h.rl.bl h.a24 hc20 hx hu (Nat.le_refl lv)).1] at k
    exact ⟨_, _, k, h.fore (bl_inv h.sw h.a24 hc20 hx lv).1, Or.inr ⟨hc20, rfl⟩⟩
theorem nI_rng {i a b : Nat} (h1 : a ≤ i) (h2 : i ≤ b) (hb : b < 2 ^ 31) : ¬ nI i < nI a ∧ nI i ≤ nI b := ⟨nI_nge (by omega) (by omega) h1, nI_le2 (by omega) hb h2⟩
theorem t_begin (h : PI M R v lv c q H K) {i : Nat} (h4 : 4 ≤ i) (h16 : i ≤ 16) : ∃ M2 R2, hCt l z m_X6_begin [.ref (z.1 + 0), .int (nI i)] 215 M R 215 (some (.int (nI lv))) M2 R2 ∧ PI M2 R2 (mBg v (nI i)) i 0 (min q 4 + 1) (hPu H q v) K := by
  have hr := nI_rng h4 h16 (by decide)
  have k := c_X6_begin l z h.gs h.sw h.qc h.q5 (x := nI i) hr.1 hr.2
  have e : M 1 3 = nI lv := (g0 (M := M)).trans h.sw.lv
  rw [e] at k
  exact ⟨_, _, k, h.rec eSx (h.rl.nw h4 h16).put⟩
theorem t_lap (h : PI M R v lv c q H K) {i : Nat} (h4 : 2 ≤ i) (h16 : i ≤ 8) : ∃ M2 R2, hCt l z m_X6_setLap [.ref (z.1 + 0), .int (nI i)] 215 M R 215 (some (.int (v 2))) M2 R2 ∧ PI M2 R2 (upd (mLp v (nI i) c) 2 (nI i)) lv c (min q 4 + 1) (hPu H q v) K := by
  have hr := nI_rng h4 h16 (by decide)
  have k := c_X6_setLap l z h.gs h.sw h.qc h.q5 (x := nI i) hr.1 hr.2
  have e : M 1 4 = v 2 := (g0 (M := M)).trans (h.rl.sc (k := 4) (by decide) (by decide))
  rw [e] at k
  exact ⟨_, _, k, h.rec eSx (h.rl.lap h4 h16).put⟩
theorem Rel.upP (h : PI M R v lv c q H K) {k : Nat} {x : Int32} {w : Nat → Int32} (hr : Rel (up2 (getS M 1) 0 k x) w lv c) : Rel (getS (up2 (pM M R q c) 1 k x) 1) w lv c := by
  refine Rel.upM (i := 0) (by decide) ?_
  rw [pM_now h.gs]
  exact hr
theorem t_limit (h : PI M R v lv c q H K) {i : Nat} (h4 : 1 ≤ i) (h16 : i ≤ 16) : ∃ M2 R2, hCt l z m_X6_setLimit [.ref (z.1 + 0), .int (nI i)] 215 M R 215 (some (.int (v 7))) M2 R2 ∧ PI M2 R2 (upd v 7 (nI i)) lv c (min q 4 + 1) (hPu H q v) K := by
  have hr := nI_rng h4 h16 (by decide)
  have k := c_X6_setLimit l z h.gs h.sw h.qc h.q5 (x := nI i) hr.1 hr.2
  have e : M 1 5 = v 7 := (g0 (M := M)).trans (h.rl.sc (k := 5) (by decide) (by decide))
  rw [e] at k
  exact ⟨_, _, k, h.rec eUx (Rel.upP h (h.rl.up (k := 5) (by decide) (by decide) (h.rl.wv.upF (by decide) (Or.inr (by decide)))))⟩
theorem t_runway (h : PI M R v lv c q H K) {x : Int32} (hx : x = 0 ∨ x = 1) : ∃ M2 R2, hCt l z m_X6_setRunway [.ref (z.1 + 0), .int x] 215 M R 215 (some (.int (v 5))) M2 R2 ∧ PI M2 R2 (upd v 5 x) lv c (min q 4 + 1) (hPu H q v) K := by
  have k := c_X6_setRunway l z h.gs h.sw h.qc h.q5 hx
  have e : M 1 6 = v 5 := (g0 (M := M)).trans (h.rl.sc (k := 6) (by decide) (by decide))
  rw [e] at k
  exact ⟨_, _, k, h.rec eUx (Rel.upP h (h.rl.up (k := 6) (by decide) (by decide) (h.rl.wv.up5 hx)))⟩
theorem t_ladder (h : PI M R v lv c q H K) {x : Int32} (hx : x = 0 ∨ x = 1) : ∃ M2 R2, hCt l z m_X6_setLadder [.ref (z.1 + 0), .int x] 215 M R 215 (some (.int (v 6))) M2 R2 ∧ PI M2 R2 (upd v 6 x) lv c (min q 4 + 1) (hPu H q v) K := by
  have k := c_X6_setLadder l z h.gs h.sw h.qc h.q5 hx
  have e : M 1 7 = v 6 := (g0 (M := M)).trans (h.rl.sc (k := 7) (by decide) (by decide))
  rw [e] at k
  exact ⟨_, _, k, h.rec eUx (Rel.upP h (h.rl.up (k := 7) (by decide) (by decide) (h.rl.wv.up6 hx)))⟩
theorem mEw_f {x : Int32} {u i : Nat} (h : PI M R v lv c q H K) (hx : hk x) (h1 : 1 ≤ u) (hu : u ≤ 9999) (hi : i < lv) : mEw v x (nI u) (nI i) = if c = 20 then -4 else 0 := by
  have hc := h.sw.c20
  unfold mEw
  have e1 : bIn x 0 2 = true := by rw [← bK_in]; exact bK_t hx
  have e2 : mLv v (nI i) = true := (mLv_n h.rl.wv.mw).mpr ⟨i, hi, rfl⟩
  have e3 : bIn (nI u) 1 9999 = true := decide_eq_true ⟨nI_le2 (a := 1) (by decide) (by omega) h1, nI_le2 (b := 9999) (by omega) (by decide) hu⟩
  rw [e1, e2, e3, if_neg (by decide), if_neg (by decide), h.rl.wv.mw.ct]
  by_cases e : c = 20
  · rw [if_pos e, if_pos (by rw [e]; rfl)]
  · rw [if_neg e, if_neg (fun q => e (nI_jj (by omega) (by decide) (q.trans (show (20 : Int32) = nI 20 from rfl))))]
/-- entering: what it answers, and the row behind it -/
theorem t_enter (h : PI M R v lv c q H K) {x : Int32} {u i : Nat} (hx : hk x) (h1 : 1 ≤ u) (hu : u ≤ 9999) (hi : i < lv) : ∃ a M2 R2 w c2 q2 H2, hCt l z m_X6_enter [.ref (z.1 + 0), .int x, .int (nI u), .int (nI i)] 215 M R 215 (some (.int a)) M2 R2 ∧ PI M2 R2 w lv c2 q2 H2 K ∧
    ((c = 20 ∧ a = -4 ∧ w = v ∧ c2 = c) ∨ (c < 20 ∧ 0 < mRf v c x (nI u) (nI i) ∧ a = -5 ∧ w = upd v 13 (mRf v c x (nI u) (nI i)) ∧ c2 = c) ∨ (c < 20 ∧ mRf v c x (nI u) (nI i) = 0 ∧ a = nI c ∧ w = mEn v c x (nI u) (nI i) ∧ c2 = c + 1)) := by
  have hc := h.sw.c20
  have hw := h.rl.ew (x := x) (fu := nI u) (y := nI i)
  have he := mEw_f h hx h1 hu hi
  by_cases d : c = 20
  · rw [if_pos d] at he
    have dd : mEw v x (nI u) (nI i) < 0 := by rw [he]; decide
    have k := c0_X6_enter l z h.gs h.sw (kd := x) (fuel := nI u) (lev := nI i) (by rw [hw.1 dd, he]; show ¬ (-4 : Int32) = 0; decide)
    rw [hw.1 dd, he] at k
    exact ⟨_, _, _, v, c, q, H, k, h, Or.inl ⟨d, rfl, rfl, rfl⟩⟩
  · rw [if_neg d] at he
    have dd : ¬ mEw v x (nI u) (nI i) < 0 := by rw [he]; decide
    have hc20 : c < 20 := by omega
    by_cases b : 0 < mRf v c x (nI u) (nI i)
    · have hb := (hw.2 dd).1 b
      have n5 : ¬ (-5 : Int32) = 0 := by decide
      have k := c0_X6_enter l z h.gs h.sw (kd := x) (fuel := nI u) (lev := nI i) (by rw [hb]; exact n5)
      rw [hb] at k
      refine ⟨_, _, _, _, c, q, H, k, h.same (fun a k h1 h2 => up2_off (by omega)) ?_ (Rel.upM (i := 0) (by decide) (h.rl.up (k := 15) (by decide) (by decide) (h.rl.wv.upF (by decide) (Or.inr (by decide))))), Or.inr (Or.inl ⟨hc20, b, rfl, rfl, rfl⟩)⟩
      rw [getS_up (Or.inl (by decide))]; exact h.a24
    · have hb := (hw.2 dd).2 b
      have hm := oI_6 (mRf_n hb.2) (fun j hj => by have := mOn_lt hj; omega)
      have k := c_X6_enter l z h.gs h.sw h.qc h.q5 (kd := x) (fuel := nI u) (lev := nI i) (by rw [hb.1]) hc20
      exact ⟨_, _, _, _, _, _, _, k, h.rec eSx (h.rl.en hc20 hx hu hi hm).put, Or.inr (Or.inr ⟨hc20, hb.2, rfl, rfl, rfl⟩)⟩
theorem t_call (h : PI M R v lv c q H K) {j : Nat} (hj : j < c) : ∃ a M2 R2 w q2 H2, hCt l z m_X6_call [.ref (z.1 + 0), .int (nI j)] 215 M R 215 (some (.int a)) M2 R2 ∧ PI M2 R2 w lv c q2 H2 K ∧
    ((a = -3 ∧ w = v ∧ (¬ v (14 + 7 * j + 2) = 0 ∨ v (14 + 7 * j + 3) = 0 ∨ v (14 + 7 * j + 5) = 1)) ∨ (v (14 + 7 * j + 2) = 0 ∧ a = v (14 + 7 * j + 3) ∧ ¬ v (14 + 7 * j + 3) = 0 ∧ w = upd v (14 + 7 * j + 5) 1)) := by
  have cw := h.rl.cw hj
  by_cases b : ¬ v (14 + 7 * j + 2) = 0 ∨ v (14 + 7 * j + 3) = 0 ∨ v (14 + 7 * j + 5) = 1
  · have e3 : mCw v j = -3 := if_pos b
    rw [e3] at cw
    have k := c0_X6_call l z h.gs (x := nI j) (by rw [cw]; decide)
    rw [cw] at k
    exact ⟨_, _, _, v, q, H, k, h, Or.inl ⟨rfl, rfl, b⟩⟩
  · have e3 : mCw v j = 0 := if_neg b
    have e0 : v (14 + 7 * j + 2) = 0 := Classical.not_not.mp (fun x => b (Or.inl x))
    have k := c_X6_call l z h.gs h.sw h.qc h.q5 (cw.trans e3) (sNum_n h.sw hj)
    rw [(h.rl.ra hj).le e0] at k
    exact ⟨_, _, _, _, _, _, k, h.rec eSx (h.rl.cal hj e0).put, Or.inr ⟨e0, rfl, fun x => b (Or.inr (Or.inl x)), rfl⟩⟩
theorem t_pass (h : PI M R v lv c q H K) {i : Nat} (h1 : 1 ≤ i) (h2 : i ≤ 99) : ∃ M2 R2, hCt l z m_X6_pass [.ref (z.1 + 0), .int (nI i)] 215 M R 215 (some (.int (mGc v lv c i))) M2 R2 ∧ PI M2 R2 (mGo v lv c i) lv c (min q 4 + 1) (hPu H q v) K := by
  have hr := nI_rng h1 h2 (by decide)
  have k := c_X6_pass l z h.gs h.sw h.qc h.q5 (x := nI i) hr.1 hr.2
  have hm := h.rl.mn i
  rw [nI_clamp (by omega), hm.1] at k
  exact ⟨_, _, k, h.rec eSx hm.2.put⟩
theorem t_undo (h : PI M R v lv c q H K) (h0 : 0 < q) {w : gRow} {lv2 c2 : Nat} (hw : H (q - 1) = w) (h1 : w 1 = nI lv2) (h2 : w 3 = nI c2) (hl : lv2 ≤ 16) (hc : c2 ≤ 20) : ∃ M2, hCt l z m_X6_undo [.ref (z.1 + 0)] 215 M R 215 (some (.int (nI (q - 1)))) M2 R ∧ PI M2 R w lv2 c2 (q - 1) H K := by
  have hq5 := h.q5
  obtain ⟨p, rfl⟩ : ∃ p, q = p + 1 := ⟨q - 1, by omega⟩
  obtain ⟨lv3, c3, hr⟩ := h.hi.2.2 p (by omega)
  rw [Nat.add_sub_cancel] at hw
  rw [hw] at hr
  have l16 := hr.sw.l16
  have c20 := hr.sw.c20
  obtain rfl : lv3 = lv2 := nI_jj (by omega) (by omega) (hr.wv.mw.lv.symm.trans h1)
  obtain rfl : c3 = c2 := nI_jj (by omega) (by omega) (hr.wv.mw.ct.symm.trans h2)
  have hc2 : Cnt M (R 48 (p + 1 - 1)) c3 := ⟨by rw [Nat.add_sub_cancel, g0b (M := M)]; exact hr.sw.ct, hr.sw.c20⟩
  have k := c_X6_undo l z h.gs h.qc (by omega) hq5 hc2
  have e : oM M R (p + 1) c3 = putS (up2 M 47 1 (nI p)) 1 (sCopy (getS M 1) (getS M (R 48 p)) c3) := rfl
  rw [e] at k
  rw [Nat.add_sub_cancel] at k ⊢
  have eo : ∀ a k, 24 ≤ a → ¬ (a = 47 ∧ k = 1) → putS (up2 M 47 1 (nI p)) 1 (sCopy (getS M 1) (getS M (R 48 p)) c3) a k = M a k := fun a k h1 h2 => by rw [pSo (by omega), up2_off h2]
  have eB : ∀ b, (b = 24 ∨ hBas b ∨ b = 167 ∨ b = 190) → getS (putS (up2 M 47 1 (nI p)) 1 (sCopy (getS M 1) (getS M (R 48 p)) c3)) b = getS M b := fun b hb => by
    have h2 : (24 ≤ b ∧ b + 23 ≤ 47) ∨ (48 ≤ b ∧ b + 23 ≤ 215) := by
      rcases hb with hb | hb | hb | hb
      · omega
      · have := hb.ge; omega
      · omega
      · omega
    exact getS_eq (fun i k hi => eo _ _ (by omega) (by omega))
  refine ⟨_, k, h.1, (hr.copy h.sw.kn).put, fun b hb => by rw [eB b hb]; exact h.kn b hb, ⟨by omega, ?_, fun j hj => ?_⟩, fun x hx => ?_⟩
  · rw [pSo (by omega), up2_same]
  · rw [eB _ (Or.inr (Or.inl (h.gs.bs (show j < 5 by omega))))]
    exact h.hi.2.2 j (by omega)
  · rw [eo 166 x (by decide) (by omega), eB (167 + 23 * x) (Or.inr (Or.inr (by omega)))]
    exact h.sl x hx
theorem t_undo0 (h : PI M R v lv c 0 H K) : hCt l z m_X6_undo [.ref (z.1 + 0)] 215 M R 215 (some (.int (-3))) M R := c0_X6_undo l z h.gs (h.qc.trans nI_0)
theorem slB_n {i : Nat} (hi : i < 2) : slB (nI i) = 167 + 23 * i := by unfold slB; rw [nI_clamp (by omega)]
theorem bSl_n {i : Nat} (hi : i < 2) : bSl (nI i) = true := decide_eq_true ⟨nI_le2 (a := 0) (by decide) (by omega) (Nat.zero_le _), (nI_ltI (by omega) (by decide)).mpr hi⟩
theorem t_keepx (h : PI M R v lv c q H K) {i : Nat} (hi2 : i < 2) : ∃ M2, hCt l z m_X6_keep [.ref (z.1 + 0), .int (nI i)] 215 M R 215 (some (.int (v 0))) M2 R ∧ PI M2 R v lv c q H (fun x => if x = i then some v else K x) ∧ ∀ a k, 213 ≤ a → M2 a k = M a k := by
  have k := c_X6_keep l z h.gs (c := c) ⟨c1_of h.sw, h.sw.c20⟩ (x := nI i) (bSl_n hi2)
  have e9 : M 1 9 = v 0 := (g0 (M := M)).trans (h.rl.sc (k := 9) (by decide) (by decide))
  have ek : kM M (nI i) c = up2 (putS M (167 + 23 * i) (sCopy (getS M (167 + 23 * i)) (getS M 1) c)) 166 i 1 := by
    unfold kM
    rw [slB_n hi2, nI_clamp (by omega)]
  rw [e9, ek] at k
  generalize hM1 : up2 (putS M (167 + 23 * i) (sCopy (getS M (167 + 23 * i)) (getS M 1) c)) 166 i 1 = M1 at k
  have eo : ∀ a k, (a < 167 + 23 * i ∨ 167 + 23 * i + 23 ≤ a) → ¬ (a = 166 ∧ k = i) → M1 a k = M a k := fun a k h1 h2 => by rw [← hM1, up2_off h2, pSo h1]
  have eb : ∀ j k, j < 23 → M1 (167 + 23 * i + j) k = sCopy (getS M (167 + 23 * i)) (getS M 1) c j k := fun j k hj => by rw [← hM1, up2_off (by omega), pSj hj]
  have ef : M1 166 i = 1 := by rw [← hM1]; exact up2_same
  have hq5 := h.q5
  have hb167 : 167 + 23 * i = 167 ∨ 167 + 23 * i = 190 := by omega
  have kk := h.kn (167 + 23 * i) (Or.inr (Or.inr hb167))
  have b1 : ∀ b, (b + 23 ≤ 166 ∨ (167 ≤ b ∧ (b + 23 ≤ 167 + 23 * i ∨ 167 + 23 * i + 23 ≤ b))) → getS M1 b = getS M b := fun b hb => getS_eq (fun j k hj => eo _ _ (by omega) (by omega))
  refine ⟨_, k, ⟨h.1, ?_, fun b hb => ?_, ⟨h.q5, ?_, fun j hj => ?_⟩, fun y hy => ?_⟩, fun a k ha => eo a k (by omega) (by omega)⟩
  · rw [b1 1 (Or.inl (by decide))]; exact h.rl
  · by_cases e : b = 167 + 23 * i
    · subst e
      exact ((SWcopy kk h.sw).kn).eq23 (fun j k hj => by rw [getS_at hj, eb j k hj])
    · rw [b1 b (by
        rcases hb with hb | hb | hb | hb
        · omega
        · have := hb.ge; omega
        · omega
        · omega)]
      exact h.kn b hb
  · rw [eo 47 1 (by omega) (by omega)]; exact h.qc
  · have hbs := (h.gs.bs (show j < 5 by omega)).ge
    rw [b1 _ (Or.inl (by omega))]
    exact h.hi.2.2 j hj
  · by_cases e : y = i
    · subst e
      right
      have n1 : ¬ (1 : Int32) = 0 := by decide
      refine ⟨v, lv, c, if_pos rfl, ?_, ?_⟩
      · rw [ef]; exact n1
      · exact (h.rl.copy kk).eq23 (fun j k hj => by rw [getS_at hj, eb j k hj])
    · have e6 : M1 166 y = M 166 y := eo 166 y (by omega) (fun q => e q.2)
      rw [e6, b1 (167 + 23 * y) (Or.inr ⟨by omega, by omega⟩)]
      have hs := h.sl y hy
      simp only [if_neg e]
      exact hs
theorem t_keep (h : PI M R v lv c q H K) {i : Nat} (hi2 : i < 2) : ∃ M2, hCt l z m_X6_keep [.ref (z.1 + 0), .int (nI i)] 215 M R 215 (some (.int (v 0))) M2 R ∧ PI M2 R v lv c q H (fun x => if x = i then some v else K x) := by
  obtain ⟨M2, k2, h2, -⟩ := t_keepx (l := l) (z := z) h hi2
  exact ⟨M2, k2, h2⟩
theorem t_rest (h : PI M R v lv c q H K) {i : Nat} (hi2 : i < 2) {w : gRow} {lv2 c2 : Nat} (hw : K i = some w) (h1 : w 1 = nI lv2) (h2 : w 3 = nI c2) (hl : lv2 ≤ 16) (hc : c2 ≤ 20) : ∃ M2 R2, hCt l z m_X6_restore [.ref (z.1 + 0), .int (nI i)] 215 M R 215 (some (.int (w 0))) M2 R2 ∧ PI M2 R2 w lv2 c2 (min q 4 + 1) (hPu H q v) K := by
  have hq5 := h.q5
  rcases h.sl i hi2 with ⟨s1, s2⟩ | ⟨w3, lv3, c3, s1, s2, hr⟩
  · rw [hw] at s1; cases s1
  · rw [hw] at s1
    cases s1
    have l16 := hr.sw.l16
    have c20 := hr.sw.c20
    obtain rfl : lv3 = lv2 := nI_jj (by omega) (by omega) (hr.wv.mw.lv.symm.trans h1)
    obtain rfl : c3 = c2 := nI_jj (by omega) (by omega) (hr.wv.mw.ct.symm.trans h2)
    have hc2 : Cnt M (slB (nI i)) c3 := ⟨by rw [slB_n hi2, g0b (M := M)]; exact hr.sw.ct, hr.sw.c20⟩
    have k := c_X6_restore l z h.gs h.sw h.qc h.q5 (bSl_n hi2) (by rw [nI_clamp (by omega)]; exact s2) hc2
    have ev : vM M R q c c3 (nI i) = putS (pM M R q c) 1 (sCopy (getS M 1) (getS M (167 + 23 * i)) c3) := by unfold vM; rw [slB_n hi2]
    have ea : M (slB (nI i)) 9 = w 0 := by
      rw [slB_n hi2, g0b (M := M)]
      exact hr.sc (k := 9) (by decide) (by decide)
    rw [ev, ea] at k
    exact ⟨_, _, k, h.rec eSx ((hr.copy h.sw.kn).put)⟩
theorem t_rest0 (h : PI M R v lv c q H K) {i : Nat} (hi2 : i < 2) (hw : K i = none) : hCt l z m_X6_restore [.ref (z.1 + 0), .int (nI i)] 215 M R 215 (some (.int (-3))) M R := by
  rcases h.sl i hi2 with ⟨s1, s2⟩ | ⟨w3, lv3, c3, s1, s2, hr⟩
  · exact c1_X6_restore l z h.gs (bSl_n hi2) (by rw [nI_clamp (by omega)]; exact s2)
  · rw [hw] at s1; cases s1
end PIC
