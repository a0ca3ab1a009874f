/-! calls of both worlds: looking ahead -/
theorem SWla {lv c : Nat} {x : Int32} : ∀ (k : Nat) (b : Int32) (f : hMem), SW f lv c → SW (laS lv c x k b f).2 lv c
  | 0, _, _, h => h
  | k + 1, b, f, h => by
    rw [laS]
    have h2 := SWpass h
    split
    · split
      · exact SWla k _ _ h2
      · split
        · exact h2
        · exact SWla k _ _ h2
    · exact h
theorem mLm2_k {M : hMem} {v : Nat → Int32} {lv c j a k : Nat} (h : a = 215 → k = 2 ∨ k = 7) : mLm2 M v lv c j a k = M a k := by
  unfold mLm2
  rw [up2_off (fun e => by have := h e.1; omega), up2_off (fun e => by have := h e.1; omega)]
theorem mFo_k {M : hMem} {v : Nat → Int32} {lv c j a k : Nat} (h8 : a ≠ 218) (h : a = 215 → k = 2 ∨ k = 7) : mFo M v lv c j a k = M a k := by
  unfold mFo
  rw [mLm2_k h, pRo h8]
theorem mBM_k {M : hMem} {v : Nat → Int32} {lv c a k : Nat} {x fu : Int32} (h8 : a ≠ 218) (h : a = 215 → k = 2 ∨ k = 7) : ∀ i, mBM M v lv c x fu i a k = M a k
  | 0 => rfl
  | i + 1 => by
    rw [mBM]
    split
    · rw [mLm2_k h, pRo h8, mBM_k h8 h i]
    · exact mBM_k h8 h i
theorem mCM_k {M : hMem} {v : Nat → Int32} {lv c a k : Nat} (h8 : a ≠ 218) (h : a = 215 → k = 2 ∨ k = 7) : ∀ i, mCM M v lv c i a k = M a k
  | 0 => rfl
  | i + 1 => by rw [mCM, mFo_k h8 h, mCM_k h8 h i]
section FORE
variable {l : Launch} {z : hZt} {M : hMem} {R : hRef} {lv c q L : Nat} {y6 y7 : hYd} {As : List Value} {a : Int32}
theorem f24_row {g : hMem} : putS M 24 g 216 = M 216 := funext fun k => pSo (by omega)
theorem f24_cr {g : hMem} (h : CR M) : CR (putS M 24 g) := h.of (fun i k hi => pSo (by omega))
theorem Inv.fore (h : Inv M R lv c q L) {g N : hMem} (hg : KN g) (eN : ∀ a k, a ≠ 218 → (a = 215 → k = 2 ∨ k = 7) → N a k = putS M 24 g a k) : Inv (putRow N 216 (M 216)) R lv c q L := by
  refine h.same (fun a k hf => ?_) ?_ ?_ ?_
  · rw [pRo hf.2.2.1, eN a k hf.2.2.2.1 hf.2.2.2.2.2, pSo (by have := hf.1; omega)]
  · rw [pRo (by decide), eN _ _ (by decide) (fun e => absurd e (by decide)), pSo (by omega)]
  · rw [row_24]
    have e : getS N 24 = getS (putS M 24 g) 24 := getS_eq (fun i k hi => eN _ _ (by omega) (by omega))
    rw [e]
    exact hg.eq23 (fun i k hi => getS_same hi)
  · rw [row_1, row_is]
    have e : getS N 1 = getS M 1 := getS_eq (fun i k hi => by rw [eN _ _ (by omega) (by omega), pSo (by omega)])
    rw [e]
    exact h.rl
theorem Cll.fore (h : Inv M R lv c q L) {g N : hMem} (hg : KN g) (eN : ∀ a k, a ≠ 218 → (a = 215 → k = 2 ∨ k = 7) → N a k = putS M 24 g a k)
    (h6 : hCt l z y6 (.ref (z.1 + 0) :: As) 226 M R 226 (some (.int a)) (putS M 24 g) R)
    (h7 : hCt l z y7 (.ref (z.1 + 215) :: As) 226 (putRow (putS M 24 g) 216 (M 216)) R 226 (some (.int a)) (putRow N 216 (M 216)) R) : Cll l z M R y6 y7 As := by
  have es : putRow (putS M 24 g) 216 (M 216) = putS M 24 g := by rw [← f24_row (M := M) (g := g)]; exact putRow_self
  rw [es] at h7
  exact ⟨a, _, _, R, lv, c, q, L, h6, h7, h.fore hg eN⟩
theorem KN_fc (h : Inv M R lv c q L) : KN (fcS lv c 600 (aC M c)) := (SWfc 600 (h.rl.ahd h.a24).sw).kn
theorem s_minutesLeft (h : Inv M R lv c q L) (x : Int32) : Cll l z M R m_X6_minutesLeft m_X7_minutesLeft [.int x] := by
  by_cases d : mCr (M 216) x = true
  · obtain ⟨j, hj, rfl⟩ := mCr_ok h.rl.wv.mw d
    have k := c_X6_minutesLeft l z h.gs h.rl.sw h.a24 (sNum_n h.rl.sw hj)
    rw [h.rl.fm h.a24 hj] at k
    exact Cll.fore h (KN_fc h) (fun a k h8 h15 => mFo_k h8 h15) k (c_X7_minutesLeft l z h.gm h.rl.wv.mw (f24_cr h.cr) h.l1 hj)
  · have d2 := (Bool.not_eq_true _).mp d
    exact Cll.idle h (c0_X6_minutesLeft l z h.gs (h.rl.nm d2)) (c0_X7_minutesLeft l z h.gm d2)
theorem s_landsWith (h : Inv M R lv c q L) (x : Int32) : Cll l z M R m_X6_landsWith m_X7_landsWith [.int x] := by
  by_cases d : mCr (M 216) x = true
  · obtain ⟨j, hj, rfl⟩ := mCr_ok h.rl.wv.mw d
    have k := c_X6_landsWith l z h.gs h.rl.sw h.a24 (sNum_n h.rl.sw hj)
    rw [h.rl.lw h.a24 hj] at k
    exact Cll.fore h (KN_fc h) (fun a k h8 h15 => mFo_k h8 h15) k (c_X7_landsWith l z h.gm h.rl.wv.mw (f24_cr h.cr) h.l1 hj)
  · have d2 := (Bool.not_eq_true _).mp d
    exact Cll.idle h (c0_X6_landsWith l z h.gs (h.rl.nm d2)) (c0_X7_landsWith l z h.gm d2)
theorem s_bestLevel (h : Inv M R lv c q L) (x fu : Int32) : Cll l z M R m_X6_bestLevel m_X7_bestLevel [.int x, .int fu] := by
  have hc := h.rl.sw.c20
  have hfl := h.rl.fl
  have no : (bIn x 0 2 = false ∨ bIn fu 1 9999 = false ∨ M 216 3 = 20) → Cll l z M R m_X6_bestLevel m_X7_bestLevel [.int x, .int fu] := fun hn => by
    have e1 : blE (getS M 1) x fu = mBw (M 216) x fu := by
      unfold blE mBw
      rw [bK_in, bFuel_in]
      by_cases b1 : bIn x 0 2 = false
      · rw [if_pos b1, if_pos b1]
      · rw [if_neg b1, if_neg b1]
        by_cases b2 : bIn fu 1 9999 = false
        · rw [if_pos b2, if_pos b2]
        · rw [if_neg b2, if_neg b2, if_pos (hn.elim (fun q => absurd q b1) (fun q => q.elim (fun q => absurd q b2) id))]
    have n0 : ¬ mBw (M 216) x fu = 0 := by
      unfold mBw
      by_cases b1 : bIn x 0 2 = false
      · rw [if_pos b1]; decide
      · rw [if_neg b1]
        by_cases b2 : bIn fu 1 9999 = false
        · rw [if_pos b2]; decide
        · rw [if_neg b2, if_pos (hn.elim (fun q => absurd q b1) (fun q => q.elim (fun q => absurd q b2) id))]; decide
    have k := c0_X6_bestLevel l z h.gs (kd := x) (fuel := fu) (by rw [bK_in, bFuel_in, hfl]; exact hn)
    rw [e1] at k
    exact Cll.idle h k (c0_X7_bestLevel l z h.gm n0)
  by_cases b1 : bIn x 0 2 = false
  · exact no (Or.inl b1)
  · by_cases b2 : bIn fu 1 9999 = false
    · exact no (Or.inr (Or.inl b2))
    · by_cases b3 : M 216 3 = 20
      · exact no (Or.inr (Or.inr b3))
      · have hkx := bIn_hk ((Bool.not_eq_false _).mp b1)
        have hfu := (Bool.not_eq_false _).mp b2
        obtain ⟨u, hu, rfl⟩ := bIn_fu hfu
        have hc20 : c < 20 := by
          rw [h.rl.wv.mw.ct] at b3
          by_cases e : c = 20
          · subst e; exact absurd (by decide) b3
          · omega
        have k := c_X6_bestLevel l z h.gs h.rl.sw h.a24 hkx (by rw [bFuel_in]; exact hfu) hc20
        rw [(h.rl.bl h.a24 hc20 hkx hu (Nat.le_refl lv)).1] at k
        have e0 : mBw (M 216) x (nI u) = 0 := by unfold mBw; rw [if_neg b1, if_neg b2, if_neg b3]
        exact Cll.fore h (bl_inv h.rl.sw h.a24 hc20 hkx lv).1 (fun a k h8 h15 => mBM_k h8 h15 lv) k (c_X7_bestLevel l z h.gm h.rl.wv.mw (f24_cr h.cr) h.l1 e0)
theorem s_lands (h : Inv M R lv c q L) (x : Int32) : Cll l z M R m_X6_lands m_X7_lands [.int x] := by
  by_cases d : x < 0
  · exact Cll.idle h (c0_X6_lands l z h.gs d) (c0_X7_lands l z h.gm d)
  · have k := c_X6_lands l z h.gs h.rl.sw h.a24 (Int32.not_lt.mp d)
    have ha := h.rl.ahd h.a24
    rw [ha.lands x] at k
    exact Cll.fore h (SWla 600 0 _ ha.sw).kn (fun a k h8 _ => pRo h8) k (c_X7_lands l z h.gm h.rl.wv.mw (f24_cr h.cr) h.l1 d)
end FORE
