/-! a recorded call keeps the invariant -/
theorem hBas.off {b d : Nat} (hb : hBas b) (hd : hBas d) (hn : b ≠ d) : b + 23 ≤ d ∨ d + 23 ≤ b := by
  obtain ⟨i, hi, rfl⟩ := hb
  obtain ⟨j, hj, rfl⟩ := hd
  omega
theorem pM_b {n : Nat} {M : hMem} {R : hRef} {q c b : Nat} (gG : GS n R) (hb : hBas b) (hn : b ≠ pB R q) : getS (pM M R q c) b = getS M b := by
  have h := pB_bas gG q
  have h1 := hBas.off hb h hn
  have h2 := hb.ge
  refine getS_eq (fun i k hi => ?_)
  unfold pM
  rw [up2_off (by omega), pSo (by omega)]
theorem pM_p {n : Nat} {M : hMem} {R : hRef} {q c i k : Nat} (gG : GS n R) (hi : i < 23) : getS (pM M R q c) (pB R q) i k = sCopy (getS M (pB R q)) (getS M 1) c i k := by
  have h2 := (pB_bas gG q).ge
  rw [getS_at hi]
  unfold pM
  rw [up2_off (by omega), pSj hi]
theorem pM_47 {M : hMem} {R : hRef} {q c : Nat} : pM M R q c 47 1 = nI (if q < 5 then q + 1 else 5) := up2_same
theorem pM_n {n : Nat} {M : hMem} {R : hRef} {q c a k : Nat} (gG : GS n R) (h : 164 ≤ a) : pM M R q c a k = M a k := pM_hi gG h
theorem pR_bas {R : hRef} {q k : Nat} (hq : q ≤ 5) (hk : k < min q 4 + 1) : pR R q 48 k = if q = 5 then (if k < 4 then R 48 (k + 1) else R 48 0) else R 48 k := by
  unfold pR
  by_cases h : q = 5
  · subst h
    rw [if_neg (by decide), if_pos rfl]
    unfold rotR
    by_cases h4 : k < 4
    · rw [if_pos ⟨rfl, h4⟩, if_pos h4]
    · rw [if_neg (fun e => h4 e.2), if_neg h4, if_pos ⟨rfl, by omega⟩]
  · rw [if_pos (by omega), if_neg h]
theorem gMd.pRx {R : hRef} {q : Nat} (h : gMd 226 R) : gMd 226 (pR R q) := by
  unfold pR
  split
  · exact h
  · have e : ∀ b k, b ≠ 48 → rotR R b k = R b k := fun b k hb => by
      unfold rotR
      rw [if_neg (fun q => hb q.1), if_neg (fun q => hb q.1)]
    unfold gMd
    rw [e _ _ (by decide), e _ _ (by decide), e _ _ (by decide), e _ _ (by decide), e _ _ (by decide), e _ _ (by decide), e _ _ (by decide), e _ _ (by decide), e _ _ (by decide), e _ _ (by decide)]
    exact h
theorem Inv.rec {M M1 : hMem} {R : hRef} {w : Nat → Int32} {lv c q L lv2 c2 : Nat} (h : Inv M R lv c q L) (e : ∀ a k, 24 ≤ a → a ≠ 213 → M1 a k = pM M R q c a k) (e1 : M1 213 1 = M 213 1) (hr : Rel (getS M1 1) w lv2 c2) :
    Inv (putRow (mRc M1 (M 216) q) 216 w) (pR R q) lv2 c2 (min q 4 + 1) L := by
  have gG := h.gs
  have hq5 := h.q5
  have hkp := h.kn (pB R q) (Or.inr (Or.inl (pB_bas gG q)))
  have kp : KN (sCopy (getS M (pB R q)) (getS M 1) c) := (SWcopy hkp h.rl.sw).kn
  have eN : ∀ a k, 24 ≤ a → a ≠ 213 → a ≠ 215 → a ≠ 216 → a ≠ 217 → putRow (mRc M1 (M 216) q) 216 w a k = pM M R q c a k := fun a k h1 h2 h3 h4 h5 => by
    rw [pRo h4]
    unfold mRc
    rw [up2_off (by omega), pRo h5]
    exact e a k h1 h2
  have eH : ∀ a k, 164 ≤ a → a ≠ 213 → a ≠ 215 → a ≠ 216 → a ≠ 217 → putRow (mRc M1 (M 216) q) 216 w a k = M a k := fun a k h1 h2 h3 h4 h5 => (eN a k (by omega) h2 h3 h4 h5).trans (pM_n gG h1)
  have eHR : ∀ a, 164 ≤ a → a ≠ 213 → a ≠ 215 → a ≠ 216 → a ≠ 217 → putRow (mRc M1 (M 216) q) 216 w a = M a := fun a h1 h2 h3 h4 h5 => funext fun k => eH a k h1 h2 h3 h4 h5
  have e215 : ∀ k, k ≠ 2 → putRow (mRc M1 (M 216) q) 216 w 215 k = M 215 k := fun k hk => by
    rw [pRo (by decide)]
    unfold mRc
    rw [up2_off (fun x => hk x.2), pRo (by decide), e _ _ (by decide) (by decide), pM_n gG (by decide)]
  have e2 : putRow (mRc M1 (M 216) q) 216 w 215 2 = nI (min q 4 + 1) := by
    rw [pRo (by decide)]
    unfold mRc
    exact up2_same
  have e217 : putRow (mRc M1 (M 216) q) 216 w 217 = mRp M (M 216) q := by
    have e0 : M1 217 = M 217 := funext fun k => (e 217 k (by decide) (by decide)).trans (pM_n gG (by decide))
    have e4 : mRp M1 (M 216) q = mRp M (M 216) q := by unfold mRp; rw [e0]
    rw [← e4]
    funext k
    rw [pRo (by decide)]
    unfold mRc
    rw [up2_off (fun x => absurd x.1 (by decide)), pRs]
  have eb : ∀ b, (b = 24 ∨ hBas b ∨ b = 167 ∨ b = 190) → getS (putRow (mRc M1 (M 216) q) 216 w) b = getS (pM M R q c) b := fun b hb => by
    have h2 : 24 ≤ b ∧ b + 23 ≤ 213 := by
      rcases hb with hb | hb | hb | hb
      · omega
      · have := hb.ge; omega
      · omega
      · omega
    exact getS_eq (fun i k hi => eN _ _ (by omega) (by omega) (by omega) (by omega) (by omega))
  have e1b : getS (putRow (mRc M1 (M 216) q) 216 w) 1 = getS M1 1 := getS_eq (fun i k hi => by
    rw [pRo (by omega)]
    unfold mRc
    rw [up2_off (by omega), pRo (by omega)])
  have eblk : ∀ b, hBas b → b ≠ pB R q → getS (putRow (mRc M1 (M 216) q) 216 w) b = getS M b := fun b hb hn => (eb b (Or.inr (Or.inl hb))).trans (pM_b gG hb hn)
  have epb : ∀ i k, i < 23 → getS (putRow (mRc M1 (M 216) q) 216 w) (pB R q) i k = sCopy (getS M (pB R q)) (getS M 1) c i k := fun i k hi => by
    rw [eb _ (Or.inr (Or.inl (pB_bas gG q)))]; exact pM_p gG hi
  have eHb : ∀ b, (b = 167 ∨ b = 190) → getS (putRow (mRc M1 (M 216) q) 216 w) b = getS M b := fun b hb => by
    rw [eb b (Or.inr (Or.inr hb))]
    exact getS_eq (fun i k hi => pM_n gG (by omega))
  refine ⟨⟨GSpR gG q, h.gm.pRx⟩, ?_, ?_, ?_, ⟨by omega, ?_, e2, fun k hk => ?_⟩, fun x hx => ?_, ⟨?_, ?_, ?_, ?_⟩⟩
  · intro x hx
    rw [eHR 223 (by decide) (by decide) (by decide) (by decide) (by decide), eHR 224 (by decide) (by decide) (by decide) (by decide) (by decide), eHR 225 (by decide) (by decide) (by decide) (by decide) (by decide)]
    exact h.cr x hx
  · rw [e1b]
    have e16 : putRow (mRc M1 (M 216) q) 216 w 216 = w := funext fun k => pRs
    rw [e16]
    exact hr
  · intro b hb
    rcases hb with rfl | hb | hb
    · rw [eb 24 (Or.inl rfl)]
      have e24 : getS (pM M R q c) 24 = getS M 24 := getS_eq (fun i k hi => pM_i gG (by omega))
      rw [e24]
      exact h.a24
    · by_cases hn : b = pB R q
      · subst hn
        exact kp.eq23 epb
      · rw [eblk b hb hn]; exact h.kn b (Or.inr (Or.inl hb))
    · rw [eHb b hb]; exact h.kn b (Or.inr (Or.inr hb))
  · rw [eN 47 1 (by decide) (by decide) (by decide) (by decide) (by decide), pM_47]
    by_cases h5 : q < 5
    · rw [if_pos h5, show min q 4 + 1 = q + 1 by omega]
    · rw [if_neg h5, show min q 4 + 1 = 5 by omega]
  · rw [e217, pR_bas hq5 hk]
    have top : ∀ d, d = pB R q → (∀ i, i < 154 → mRp M (M 216) q (154 * k + i) = M 216 i) → ∃ lv c, Rel (getS (putRow (mRc M1 (M 216) q) 216 w) d) (fun i => mRp M (M 216) q (154 * k + i)) lv c := fun d hd hi =>
      ⟨lv, c, by rw [hd]; exact ((h.rl.copy hkp).eq23 epb).eqv hi⟩
    have old : ∀ d j, j < q → d = R 48 j → d ≠ pB R q → (∀ i, i < 154 → mRp M (M 216) q (154 * k + i) = M 217 (154 * j + i)) → ∃ lv c, Rel (getS (putRow (mRc M1 (M 216) q) 216 w) d) (fun i => mRp M (M 216) q (154 * k + i)) lv c := fun d j hj hd hn hi => by
      obtain ⟨lv3, c3, h3⟩ := h.hi.2.2.2 j hj
      refine ⟨lv3, c3, ?_⟩
      rw [eblk d (by rw [hd]; exact gG.bs (by omega)) hn, hd]
      exact h3.eqv hi
    by_cases h5 : q = 5
    · subst h5
      rw [if_pos rfl]
      have epB : pB R 5 = R 48 0 := rfl
      have row : ∀ j, mRp M (M 216) 5 j = cpy (shf (M 217) 616) 616 (M 216) 154 j := fun j => rfl
      by_cases h4 : k < 4
      · rw [if_pos h4]
        refine old _ (k + 1) (by omega) rfl (fun x => ?_) (fun i hi => ?_)
        · have := gG.inj (show k + 1 < 5 by omega) (show 0 < 5 by omega) x; omega
        · rw [row]
          unfold cpy shf
          rw [if_neg (by omega), if_pos (by omega), show 154 * k + i + 154 = 154 * (k + 1) + i by omega]
      · rw [if_neg h4]
        refine top _ rfl (fun i hi => ?_)
        rw [row]
        unfold cpy
        rw [if_pos (by omega), show 154 * k + i - 616 = i by omega]
    · rw [if_neg h5]
      have epB : pB R q = R 48 q := by unfold pB; rw [if_pos (by omega)]
      have row : ∀ j, mRp M (M 216) q j = cpy (M 217) (154 * q) (M 216) 154 j := fun j => by unfold mRp; rw [if_neg h5]
      by_cases hkq : k < q
      · refine old _ k hkq rfl (fun x => ?_) (fun i hi => ?_)
        · rw [epB] at x
          have := gG.inj (show k < 5 by omega) (show q < 5 by omega) x; omega
        · rw [row]
          unfold cpy
          rw [if_neg (by omega)]
      · have : k = q := by omega
        subst this
        refine top _ epB.symm (fun i hi => ?_)
        rw [row]
        unfold cpy
        rw [if_pos (by omega), show 154 * k + i - 154 * k = i by omega]
  · rw [eHR 166 (by decide) (by decide) (by decide) (by decide) (by decide), eHR 220 (by decide) (by decide) (by decide) (by decide) (by decide), eHR 219 (by decide) (by decide) (by decide) (by decide) (by decide), eHb (167 + 23 * x) (by omega)]
    exact h.sl x hx
  · rw [eHR 214 (by decide) (by decide) (by decide) (by decide) (by decide)]; exact h.tx.1
  · rw [pRo (by decide)]
    unfold mRc
    rw [up2_off (fun x => absurd x.1 (by decide)), pRo (by decide), e1]
    exact h.tx.2.1
  · rw [e215 7 (by decide)]; exact h.tx.2.2.1
  · rw [eHR 214 (by decide) (by decide) (by decide) (by decide) (by decide), eHR 221 (by decide) (by decide) (by decide) (by decide) (by decide)]; exact h.tx.2.2.2
