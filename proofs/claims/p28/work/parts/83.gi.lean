/-! what stands between two calls: the stack's memory, and beside it rows that tell the state, the history, the slots -/
theorem Rel.eqv {f : hMem} {v w : Nat → Int32} {lv c : Nat} (h : Rel f v lv c) (e : w = v) : Rel f w lv c := e ▸ h
def KNb (M : hMem) : Prop := ∀ b, (b = 24 ∨ hBas b ∨ b = 167 ∨ b = 190) → KN (getS M b)
theorem KN.eq23 {f g : hMem} (h : KN f) (e : ∀ i k, i < 23 → g i k = f i k) : KN g := fun j hj => by
  rw [e _ _ (by omega), e _ _ (by omega)]; exact h j hj
theorem getS_eq {M N : hMem} {b : Nat} (e : ∀ i k, i < 23 → N (b + i) k = M (b + i) k) : getS N b = getS M b := by
  funext i k
  unfold getS
  split
  · next h => exact e i k h
  · rfl
abbrev gRow : Type := Nat → Int32
def GH (M : hMem) (R : hRef) (q : Nat) (H : Nat → gRow) : Prop := q ≤ 5 ∧ M 47 1 = nI q ∧ ∀ k, k < q → ∃ lv c, Rel (getS M (R 48 k)) (H k) lv c
def GK (M : hMem) (K : Nat → Option gRow) : Prop := ∀ x, x < 2 → (K x = none ∧ M 166 x = 0) ∨ ∃ w lv c, K x = some w ∧ ¬ M 166 x = 0 ∧ Rel (getS M (167 + 23 * x)) w lv c
def PI (M : hMem) (R : hRef) (v : gRow) (lv c q : Nat) (H : Nat → gRow) (K : Nat → Option gRow) : Prop :=
  GS 215 R ∧ Rel (getS M 1) v lv c ∧ KNb M ∧ GH M R q H ∧ GK M K
section PIA
variable {M : hMem} {R : hRef} {v : gRow} {lv c q : Nat} {H : Nat → gRow} {K : Nat → Option gRow}
theorem PI.gs (h : PI M R v lv c q H K) : GS 215 R := h.1
theorem PI.rl (h : PI M R v lv c q H K) : Rel (getS M 1) v lv c := h.2.1
theorem PI.kn (h : PI M R v lv c q H K) : KNb M := h.2.2.1
theorem PI.hi (h : PI M R v lv c q H K) : GH M R q H := h.2.2.2.1
theorem PI.sl (h : PI M R v lv c q H K) : GK M K := h.2.2.2.2
theorem PI.a24 (h : PI M R v lv c q H K) : KN (getS M 24) := h.kn 24 (Or.inl rfl)
theorem PI.q5 (h : PI M R v lv c q H K) : q ≤ 5 := h.hi.1
theorem PI.qc (h : PI M R v lv c q H K) : M 47 1 = nI q := h.hi.2.1
theorem PI.sw (h : PI M R v lv c q H K) : SW (getS M 1) lv c := h.rl.sw
/-- a call that records nothing -/
theorem PI.same (h : PI M R v lv c q H K) {N : hMem} {w : gRow} {lv2 c2 : Nat} (e : ∀ a k, 47 ≤ a → a < 213 → N a k = M a k) (hA : KN (getS N 24)) (hr : Rel (getS N 1) w lv2 c2) : PI N R w lv2 c2 q H K := by
  have eB : ∀ b, (hBas b ∨ b = 167 ∨ b = 190) → getS N b = getS M b := fun b hb => by
    have h2 : 49 ≤ b ∧ b + 23 ≤ 213 := by
      rcases hb with hb | hb | hb
      · have := hb.ge; omega
      · omega
      · omega
    exact getS_eq (fun i k hi => e _ _ (by omega) (by omega))
  have hq5 := h.q5
  refine ⟨h.1, hr, ?_, ⟨h.q5, ?_, fun k hk => ?_⟩, fun x hx => ?_⟩
  · intro b hb
    rcases hb with rfl | hb
    · exact hA
    · rw [eB b hb]; exact h.kn b (Or.inr hb)
  · rw [e _ _ (by decide) (by decide)]; exact h.qc
  · rw [eB _ (Or.inl (h.gs.bs (show k < 5 by omega)))]
    exact h.hi.2.2 k hk
  · rw [e _ _ (by decide) (by decide), eB (167 + 23 * x) (Or.inr (by omega))]
    exact h.sl x hx
theorem hBas.off {b d : Nat} (hb : hBas b) (hd : hBas d) (hn : b ≠ d) : b + 23 ≤ d ∨ d + 23 ≤ b := by
  obtain ⟨i, hi, rfl⟩ := hb
  obtain ⟨j, hj, rfl⟩ := hd
  omega
theorem pM_b {n : Nat} {M : hMem} {R : hRef} {q c b : Nat} (gG : GS n R) (hb : hBas b) (hn : b ≠ pB R q) : getS (pM M R q c) b = getS M b := by
  have h := pB_bas gG q
  have h1 := hBas.off hb h hn
  have h2 := hb.ge
  refine getS_eq (fun i k hi => ?_)
  unfold pM
  rw [up2_off (by omega), pSo (by omega)]
theorem pM_p {n : Nat} {M : hMem} {R : hRef} {q c i k : Nat} (gG : GS n R) (hi : i < 23) : getS (pM M R q c) (pB R q) i k = sCopy (getS M (pB R q)) (getS M 1) c i k := by
  have h2 := (pB_bas gG q).ge
  rw [getS_at hi]
  unfold pM
  rw [up2_off (by omega), pSj hi]
theorem pM_47 {M : hMem} {R : hRef} {q c : Nat} : pM M R q c 47 1 = nI (if q < 5 then q + 1 else 5) := up2_same
theorem pM_n {n : Nat} {M : hMem} {R : hRef} {q c a k : Nat} (gG : GS n R) (h : 164 ≤ a) : pM M R q c a k = M a k := pM_hi gG h
theorem pR_bas {R : hRef} {q k : Nat} (hq : q ≤ 5) (hk : k < min q 4 + 1) : pR R q 48 k = if q = 5 then (if k < 4 then R 48 (k + 1) else R 48 0) else R 48 k := by
  unfold pR
  by_cases h : q = 5
  · subst h
    rw [if_neg (by decide), if_pos rfl]
    unfold rotR
    by_cases h4 : k < 4
    · rw [if_pos ⟨rfl, h4⟩, if_pos h4]
    · rw [if_neg (fun e => h4 e.2), if_neg h4, if_pos ⟨rfl, by omega⟩]
  · rw [if_pos (by omega), if_neg h]
/-- the history when one more is recorded -/
def hPu (H : Nat → gRow) (q : Nat) (v : gRow) : Nat → gRow := fun k => if q = 5 then (if k < 4 then H (k + 1) else v) else if k = q then v else H k
theorem hPu_top {H : Nat → gRow} {q : Nat} {v : gRow} (h : q ≤ 5) : hPu H q v (min q 4) = v := by
  unfold hPu
  by_cases e : q = 5
  · subst e; rfl
  · rw [if_neg e, if_pos (by omega)]
theorem hPu_sec {H : Nat → gRow} {q : Nat} {v w : gRow} (h : q ≤ 5) : hPu (hPu H q v) (min q 4 + 1) w (min (min q 4 + 1) 4 - 1) = if q = 0 then v else if q = 5 then v else if q = 4 then v else v := by
  unfold hPu
  rcases (show q = 0 ∨ q = 1 ∨ q = 2 ∨ q = 3 ∨ q = 4 ∨ q = 5 by omega) with rfl | rfl | rfl | rfl | rfl | rfl <;> rfl
theorem hPu_low {H : Nat → gRow} {q : Nat} {v w : gRow} (h : q ≤ 5) : hPu (hPu H q v) (min q 4 + 1) w (min (min q 4 + 1) 4 - 1) = v := by
  rw [hPu_sec h]
  (repeat' split) <;> rfl
theorem PI.rec (h : PI M R v lv c q H K) {M1 : hMem} {w : gRow} {lv2 c2 : Nat} (e : ∀ a k, 24 ≤ a → a ≠ 213 → M1 a k = pM M R q c a k) (hr : Rel (getS M1 1) w lv2 c2) :
    PI M1 (pR R q) w lv2 c2 (min q 4 + 1) (hPu H q v) K := by
  have gG := h.gs
  have hq5 := h.q5
  have hkp := h.kn (pB R q) (Or.inr (Or.inl (pB_bas gG q)))
  have kp : KN (sCopy (getS M (pB R q)) (getS M 1) c) := (SWcopy hkp h.sw).kn
  have eH : ∀ a k, 164 ≤ a → a ≠ 213 → M1 a k = M a k := fun a k h1 h2 => (e a k (by omega) h2).trans (pM_n gG h1)
  have eb : ∀ b, (b = 24 ∨ hBas b ∨ b = 167 ∨ b = 190) → getS M1 b = getS (pM M R q c) b := fun b hb => by
    have h2 : 24 ≤ b ∧ b + 23 ≤ 213 := by
      rcases hb with hb | hb | hb | hb
      · omega
      · have := hb.ge; omega
      · omega
      · omega
    exact getS_eq (fun i k hi => e _ _ (by omega) (by omega))
  have eblk : ∀ b, hBas b → b ≠ pB R q → getS M1 b = getS M b := fun b hb hn => (eb b (Or.inr (Or.inl hb))).trans (pM_b gG hb hn)
  have epb : ∀ i k, i < 23 → getS M1 (pB R q) i k = sCopy (getS M (pB R q)) (getS M 1) c i k := fun i k hi => by
    rw [eb _ (Or.inr (Or.inl (pB_bas gG q)))]; exact pM_p gG hi
  have eHb : ∀ b, (b = 167 ∨ b = 190) → getS M1 b = getS M b := fun b hb => by
    rw [eb b (Or.inr (Or.inr hb))]
    exact getS_eq (fun i k hi => pM_n gG (by omega))
  refine ⟨GSpR gG q, hr, ?_, ⟨by omega, ?_, fun k hk => ?_⟩, fun x hx => ?_⟩
  · intro b hb
    rcases hb with rfl | hb | hb
    · rw [eb 24 (Or.inl rfl)]
      have e24 : getS (pM M R q c) 24 = getS M 24 := getS_eq (fun i k hi => pM_i gG (by omega))
      rw [e24]
      exact h.a24
    · by_cases hn : b = pB R q
      · subst hn
        exact kp.eq23 epb
      · rw [eblk b hb hn]; exact h.kn b (Or.inr (Or.inl hb))
    · rw [eHb b hb]; exact h.kn b (Or.inr (Or.inr hb))
  · rw [e 47 1 (by decide) (by decide), pM_47]
    by_cases h5 : q < 5
    · rw [if_pos h5, show min q 4 + 1 = q + 1 by omega]
    · rw [if_neg h5, show min q 4 + 1 = 5 by omega]
  · rw [pR_bas hq5 hk]
    have top : ∀ d, d = pB R q → ∃ lv c, Rel (getS M1 d) v lv c := fun d hd => ⟨lv, c, by rw [hd]; exact (h.rl.copy hkp).eq23 epb⟩
    have old : ∀ d j, j < q → d = R 48 j → d ≠ pB R q → ∃ lv c, Rel (getS M1 d) (H j) lv c := fun d j hj hd hn => by
      obtain ⟨lv3, c3, h3⟩ := h.hi.2.2 j hj
      refine ⟨lv3, c3, ?_⟩
      rw [eblk d (by rw [hd]; exact gG.bs (by omega)) hn, hd]
      exact h3
    unfold hPu
    by_cases h5 : q = 5
    · subst h5
      rw [if_pos rfl, if_pos rfl]
      have epB : pB R 5 = R 48 0 := rfl
      by_cases h4 : k < 4
      · rw [if_pos h4, if_pos h4]
        refine old _ (k + 1) (by omega) rfl (fun x => ?_)
        have := gG.inj (show k + 1 < 5 by omega) (show 0 < 5 by omega) x; omega
      · rw [if_neg h4, if_neg h4]
        exact top _ rfl
    · rw [if_neg h5, if_neg h5]
      have epB : pB R q = R 48 q := by unfold pB; rw [if_pos (by omega)]
      by_cases hkq : k < q
      · rw [if_neg (by omega)]
        refine old _ k hkq rfl (fun x => ?_)
        rw [epB] at x
        have := gG.inj (show k < 5 by omega) (show q < 5 by omega) x; omega
      · have : k = q := by omega
        subst this
        rw [if_pos rfl]
        exact top _ epB.symm
  · rw [eH 166 _ (by decide) (by decide), eHb (167 + 23 * x) (by omega)]
    exact h.sl x hx
end PIA
