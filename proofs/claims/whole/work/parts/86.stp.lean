/-! a call of both worlds: one answer, and the invariant behind it -/
def Cll (l : Launch) (z : hZt) (M : hMem) (R : hRef) (y6 y7 : hYd) (As : List Value) : Prop :=
  ∃ (a : Int32) (M1 M2 : hMem) (R2 : hRef) (lv c q L : Nat), hCt l z y6 (.ref (z.1 + 0) :: As) 226 M R 226 (some (.int a)) M1 R2 ∧ hCt l z y7 (.ref (z.1 + 215) :: As) 226 M1 R2 226 (some (.int a)) M2 R2 ∧ Inv M2 R2 lv c q L
section STP
variable {l : Launch} {z : hZt} {M : hMem} {R : hRef} {lv c q L : Nat} {y6 y7 : hYd} {As : List Value} {a : Int32}
theorem Cll.idle (h : Inv M R lv c q L) (h6 : hCt l z y6 (.ref (z.1 + 0) :: As) 226 M R 226 (some (.int a)) M R) (h7 : hCt l z y7 (.ref (z.1 + 215) :: As) 226 (putRow M 216 (M 216)) R 226 (some (.int a)) (putRow M 216 (M 216)) R) : Cll l z M R y6 y7 As := by
  rw [putRow_self] at h7
  exact ⟨a, M, M, R, lv, c, q, L, h6, h7, h⟩
theorem Cll.note (h : Inv M R lv c q L) {M1 : hMem} {w : Nat → Int32} {lv2 c2 : Nat} (e : ∀ a k, 24 ≤ a → M1 a k = pM M R q c a k) (hr : Rel (getS M1 1) w lv2 c2)
    (h6 : hCt l z y6 (.ref (z.1 + 0) :: As) 226 M R 226 (some (.int a)) M1 (pR R q))
    (h7 : gMd 226 (pR R q) → CR M1 → M1 215 2 = nI q → hCt l z y7 (.ref (z.1 + 215) :: As) 226 (putRow M1 216 (M 216)) (pR R q) 226 (some (.int a)) (putRow (mRc M1 (M 216) q) 216 w) (pR R q)) : Cll l z M R y6 y7 As := by
  have hi : ∀ a k, 164 ≤ a → M1 a k = M a k := fun a k ha => (e a k (by omega)).trans (pM_n h.gs ha)
  have h16 : M1 216 = M 216 := funext fun k => hi 216 k (by decide)
  have h7 := h7 h.gm.pRx (fun x hx => by rw [hi 223 _ (by decide), hi 224 _ (by decide), hi 225 _ (by decide)]; exact h.cr x hx) ((hi 215 2 (by decide)).trans h.qm)
  have es : putRow M1 216 (M 216) = M1 := by rw [← h16]; exact putRow_self
  rw [es] at h7
  exact ⟨a, M1, _, _, lv2, c2, _, L, h6, h7, h.rec (fun a k ha _ => e a k ha) (hi 213 1 (by decide)) hr⟩
theorem eSx {X f : hMem} : ∀ a k, 24 ≤ a → putS X 1 f a k = X a k := fun a k ha => pSo (by omega)
theorem eUx {X : hMem} {k2 : Nat} {x : Int32} : ∀ a k, 24 ≤ a → up2 X 1 k2 x a k = X a k := fun a k ha => up2_off (by omega)
theorem Rel.upP (h : Inv M R lv c q L) {k : Nat} {x : Int32} {w : Nat → Int32} (hr : Rel (up2 (getS M 1) 0 k x) w lv c) : Rel (getS (up2 (pM M R q c) 1 k x) 1) w lv c := by
  refine Rel.upM (i := 0) (by decide) ?_
  rw [pM_now h.gs]
  exact hr
theorem bIn_f {x a b : Int32} (h : x < a ∨ b < x) : bIn x a b = false := by
  unfold bIn
  refine decide_eq_false (fun q => ?_)
  rcases h with h | h
  · exact Int32.not_le.mpr h q.1
  · exact Int32.not_le.mpr h q.2
theorem bIn_t {x a b : Int32} (h1 : ¬ x < a) (h2 : x ≤ b) : bIn x a b = true := decide_eq_true ⟨Int32.not_lt.mp h1, h2⟩
theorem bIn_or {x a b : Int32} : (x < a ∨ b < x) ∨ (¬ x < a ∧ x ≤ b) := by
  by_cases h : x < a
  · exact Or.inl (Or.inl h)
  · by_cases h2 : x ≤ b
    · exact Or.inr ⟨h, h2⟩
    · exact Or.inl (Or.inr (Int32.not_le.mp h2))
theorem rng {x lo hi : Int32} {a b : Nat} (h1 : ¬ x < lo) (h2 : x ≤ hi) (ha : lo.toInt = (a : Int)) (hb : hi.toInt = (b : Int)) : ∃ i, a ≤ i ∧ i ≤ b ∧ x = nI i := by
  have q1 := Int32.le_iff_toInt_le.mp (Int32.not_lt.mp h1)
  have q2 := Int32.le_iff_toInt_le.mp h2
  have q3 := Int32.toInt_lt x
  refine ⟨x.toInt.toNat, by omega, by omega, Int32.toInt_inj.mp ?_⟩
  rw [nI_toInt (by omega)]
  omega
theorem s_begin (h : Inv M R lv c q L) (x : Int32) : Cll l z M R m_X6_begin m_X7_begin [.int x] := by
  rcases bIn_or (x := x) (a := 4) (b := 16) with e | ⟨h1, h2⟩
  · exact Cll.idle h (c0_X6_begin l z h.gs e) (c0_X7_begin l z h.gm (bIn_f e))
  · obtain ⟨i, i4, i16, rfl⟩ := rng h1 h2 (a := 4) (b := 16) (by decide) (by decide)
    refine Cll.note h eSx (h.rl.nw i4 i16).put (c_X6_begin l z h.gs h.rl.sw h.qc h.q5 h1 h2) (fun gM _ hq => ?_)
    have e : M 1 3 = M 216 1 := (g0 (M := M)).trans (h.rl.sw.lv.trans h.rl.wv.mw.lv.symm)
    rw [e]
    exact c_X7_begin l z gM h.q5 hq (bIn_t h1 h2)
theorem s_setLap (h : Inv M R lv c q L) (x : Int32) : Cll l z M R m_X6_setLap m_X7_setLap [.int x] := by
  rcases bIn_or (x := x) (a := 2) (b := 8) with e | ⟨h1, h2⟩
  · exact Cll.idle h (c0_X6_setLap l z h.gs e) (c0_X7_setLap l z h.gm (bIn_f e))
  · obtain ⟨i, i4, i16, rfl⟩ := rng h1 h2 (a := 2) (b := 8) (by decide) (by decide)
    refine Cll.note h eSx (h.rl.lap i4 i16).put (c_X6_setLap l z h.gs h.rl.sw h.qc h.q5 h1 h2) (fun gM _ hq => ?_)
    have e : M 1 4 = M 216 2 := (g0 (M := M)).trans (h.rl.sc (k := 4) (by decide) (by decide))
    rw [e]
    exact c_X7_setLap l z gM h.rl.wv.mw h.q5 hq (bIn_t h1 h2)
theorem s_setLimit (h : Inv M R lv c q L) (x : Int32) : Cll l z M R m_X6_setLimit m_X7_setLimit [.int x] := by
  rcases bIn_or (x := x) (a := 1) (b := 16) with e | ⟨h1, h2⟩
  · exact Cll.idle h (c0_X6_setLimit l z h.gs e) (c0_X7_setLimit l z h.gm (bIn_f e))
  · refine Cll.note h eUx (Rel.upP h (h.rl.up (k := 5) (by decide) (by decide) (h.rl.wv.upF (by decide) (Or.inr (by decide))))) (c_X6_setLimit l z h.gs h.rl.sw h.qc h.q5 h1 h2) (fun gM _ hq => ?_)
    have e : M 1 5 = M 216 7 := (g0 (M := M)).trans (h.rl.sc (k := 5) (by decide) (by decide))
    rw [e]
    exact c_X7_setLimit l z gM h.q5 hq (bIn_t h1 h2)
theorem s_setRunway (h : Inv M R lv c q L) {x : Int32} (hx : x = 0 ∨ x = 1) : Cll l z M R m_X6_setRunway m_X7_setRunway [.int x] := by
  refine Cll.note h eUx (Rel.upP h (h.rl.up (k := 6) (by decide) (by decide) (h.rl.wv.up5 hx))) (c_X6_setRunway l z h.gs h.rl.sw h.qc h.q5 hx) (fun gM _ hq => ?_)
  have e : M 1 6 = M 216 5 := (g0 (M := M)).trans (h.rl.sc (k := 6) (by decide) (by decide))
  rw [e]
  exact c_X7_setRunway l z gM h.q5 hq hx
theorem s_setLadder (h : Inv M R lv c q L) {x : Int32} (hx : x = 0 ∨ x = 1) : Cll l z M R m_X6_setLadder m_X7_setLadder [.int x] := by
  refine Cll.note h eUx (Rel.upP h (h.rl.up (k := 7) (by decide) (by decide) (h.rl.wv.up6 hx))) (c_X6_setLadder l z h.gs h.rl.sw h.qc h.q5 hx) (fun gM _ hq => ?_)
  have e : M 1 7 = M 216 6 := (g0 (M := M)).trans (h.rl.sc (k := 7) (by decide) (by decide))
  rw [e]
  exact c_X7_setLadder l z gM h.q5 hq hx
end STP
