/-! what stands between two calls, in both worlds -/
theorem Rel.eqv {f : hMem} {v w : Nat → Int32} {lv c : Nat} (h : Rel f v lv c) (e : ∀ i, i < 154 → w i = v i) : Rel f w lv c := by
  have h20 := h.sw.c20
  have hs : ∀ k, rs k < 154 := fun k => by have := rs_lt (k := k); omega
  have ho : ∀ x, mOn w x c = mOn v x c := fun x => mOn_c (fun j hj => ⟨e _ (by omega), e _ (by omega)⟩)
  refine ⟨⟨⟨⟨(e 1 (by decide)).trans h.wv.mw.lv, h.wv.mw.l16⟩, ⟨(e 3 (by decide)).trans h.wv.mw.ct, h.wv.mw.c20⟩, fun j hj => by rw [e _ (by omega)]; exact h.wv.mw.kd hj⟩, h.wv.l4, ?_, ?_, ?_, ?_, fun j hj => ⟨?_, ?_, fun h0 => ⟨?_, ?_, ?_, fun k hk h1 h2 => ?_⟩⟩⟩,
    h.sw, fun k h4 h5 => (h.sc h4 h5).trans (e _ (hs k)).symm, fun j hj => ⟨?_, ?_, ?_, fun h0 => ⟨?_, ?_, ?_⟩, fun h0 => ?_⟩, fun i hi => ?_⟩
  · rw [e _ (by decide)]; exact h.wv.lap
  · rw [e _ (by decide)]; exact h.wv.op
  · rw [e _ (by decide)]; exact h.wv.au
  · rw [e _ (by decide)]; exact h.wv.wt
  · rw [e _ (by omega)]; exact (h.wv.ac hj).fu
  · rw [e _ (by omega)]; exact (h.wv.ac hj).st
  · rw [e _ (by omega)] at h0 ⊢; exact (h.wv.ac hj).le h0
  · rw [e _ (by omega)] at h0 ⊢; rw [e 2 (by decide)]; exact (h.wv.ac hj).pl h0
  · rw [e _ (by omega)] at h0 ⊢; exact (h.wv.ac hj).ca h0
  · rw [e _ (by omega)] at h0 h1
    rw [e _ (by omega), e _ (by omega)] at h2
    exact (h.wv.ac hj).un h0 hk h1 h2
  · rw [e _ (by omega)]; exact (h.ra hj).kd
  · rw [e _ (by omega)]; exact (h.ra hj).fu
  · rw [e _ (by omega)]; exact (h.ra hj).st
  · rw [e _ (by omega)] at h0 ⊢; exact (h.ra hj).le h0
  · rw [e _ (by omega)] at h0 ⊢; exact (h.ra hj).pl h0
  · rw [e _ (by omega)] at h0 ⊢; exact (h.ra hj).ca h0
  · rw [e _ (by omega)] at h0 ⊢; exact (h.ra hj).wh h0
  · rw [ho]; exact h.ho hi
def KNb (M : hMem) : Prop := ∀ b, (b = 24 ∨ hBas b ∨ b = 167 ∨ b = 190) → KN (getS M b)
def HI (M : hMem) (R : hRef) (q : Nat) : Prop := q ≤ 5 ∧ M 47 1 = nI q ∧ M 215 2 = nI q ∧ ∀ k, k < q → ∃ lv c, Rel (getS M (R 48 k)) (fun i => M 217 (154 * k + i)) lv c
def SLt (M : hMem) : Prop := ∀ x, x < 2 → (M 166 x = 0 ∧ M 220 x = 0) ∨ (¬ M 166 x = 0 ∧ ¬ M 220 x = 0 ∧ ∃ lv c, Rel (getS M (167 + 23 * x)) (fun i => M 219 (154 * x + i)) lv c)
def TX (M : hMem) (L : Nat) : Prop := txO (M 214) L ∧ M 213 1 = nI L ∧ M 215 7 = nI L ∧ M 221 = M 214
def Inv (M : hMem) (R : hRef) (lv c q L : Nat) : Prop := (GS 226 R ∧ gMd 226 R) ∧ CR M ∧ Rel (getS M 1) (M 216) lv c ∧ KNb M ∧ HI M R q ∧ SLt M ∧ TX M L
theorem Inv.gs {M : hMem} {R : hRef} {lv c q L : Nat} (h : Inv M R lv c q L) : GS 226 R := h.1.1
theorem Inv.gm {M : hMem} {R : hRef} {lv c q L : Nat} (h : Inv M R lv c q L) : gMd 226 R := h.1.2
theorem Inv.cr {M : hMem} {R : hRef} {lv c q L : Nat} (h : Inv M R lv c q L) : CR M := h.2.1
theorem Inv.rl {M : hMem} {R : hRef} {lv c q L : Nat} (h : Inv M R lv c q L) : Rel (getS M 1) (M 216) lv c := h.2.2.1
theorem Inv.kn {M : hMem} {R : hRef} {lv c q L : Nat} (h : Inv M R lv c q L) : KNb M := h.2.2.2.1
theorem Inv.hi {M : hMem} {R : hRef} {lv c q L : Nat} (h : Inv M R lv c q L) : HI M R q := h.2.2.2.2.1
theorem Inv.sl {M : hMem} {R : hRef} {lv c q L : Nat} (h : Inv M R lv c q L) : SLt M := h.2.2.2.2.2.1
theorem Inv.tx {M : hMem} {R : hRef} {lv c q L : Nat} (h : Inv M R lv c q L) : TX M L := h.2.2.2.2.2.2
theorem Inv.a24 {M : hMem} {R : hRef} {lv c q L : Nat} (h : Inv M R lv c q L) : KN (getS M 24) := h.kn 24 (Or.inl rfl)
theorem Inv.q5 {M : hMem} {R : hRef} {lv c q L : Nat} (h : Inv M R lv c q L) : q ≤ 5 := h.hi.1
theorem Inv.qc {M : hMem} {R : hRef} {lv c q L : Nat} (h : Inv M R lv c q L) : M 47 1 = nI q := h.hi.2.1
theorem Inv.qm {M : hMem} {R : hRef} {lv c q L : Nat} (h : Inv M R lv c q L) : M 215 2 = nI q := h.hi.2.2.1
theorem Inv.l1 {M : hMem} {R : hRef} {lv c q L : Nat} (h : Inv M R lv c q L) : 1 ≤ lv := by have := h.rl.wv.l4; omega
theorem KN.eq23 {f g : hMem} (h : KN f) (e : ∀ i k, i < 23 → g i k = f i k) : KN g := fun j hj => by
  rw [e _ _ (by omega), e _ _ (by omega)]; exact h j hj
/-- what the next call may find changed with nothing recorded -/
def fr (a k : Nat) : Prop := 47 ≤ a ∧ a ≠ 213 ∧ a ≠ 216 ∧ a ≠ 218 ∧ a ≠ 222 ∧ (a = 215 → k = 2 ∨ k = 7)
theorem getS_eq {M N : hMem} {b : Nat} (e : ∀ i k, i < 23 → N (b + i) k = M (b + i) k) : getS N b = getS M b := by
  funext i k
  unfold getS
  split
  · next h => exact e i k h
  · rfl
theorem fr_b {b i k : Nat} (hb : hBas b ∨ b = 167 ∨ b = 190) (hi : i < 23) : fr (b + i) k := by
  have h : 49 ≤ b ∧ b + 23 ≤ 213 := by
    rcases hb with hb | hb | hb
    · have := hb.ge; omega
    · omega
    · omega
  refine ⟨by omega, by omega, by omega, by omega, by omega, by omega⟩
theorem Inv.same {M N : hMem} {R : hRef} {lv c q L lv2 c2 : Nat} (h : Inv M R lv c q L) (e : ∀ a k, fr a k → N a k = M a k) (e1 : N 213 1 = M 213 1) (hA : KN (getS N 24)) (hr : Rel (getS N 1) (N 216) lv2 c2) : Inv N R lv2 c2 q L := by
  have eR : ∀ a, 47 ≤ a → a ≠ 213 → a ≠ 216 → a ≠ 218 → a ≠ 222 → a ≠ 215 → N a = M a := fun a h1 h2 h3 h4 h5 h6 => funext fun k => e a k ⟨h1, h2, h3, h4, h5, fun q => absurd q h6⟩
  have e7 : ∀ k, k = 2 ∨ k = 7 → N 215 k = M 215 k := fun k hk => e 215 k ⟨by decide, by decide, by decide, by decide, by decide, fun _ => hk⟩
  have eB : ∀ b, (hBas b ∨ b = 167 ∨ b = 190) → getS N b = getS M b := fun b hb => getS_eq (fun i k hi => e _ _ (fr_b hb hi))
  refine ⟨h.1, ?_, hr, ?_, ⟨h.q5, ?_, ?_, fun k hk => ?_⟩, fun x hx => ?_, ⟨?_, ?_, ?_, ?_⟩⟩
  · intro x hx
    rw [eR 223 (by decide) (by decide) (by decide) (by decide) (by decide) (by decide), eR 224 (by decide) (by decide) (by decide) (by decide) (by decide) (by decide), eR 225 (by decide) (by decide) (by decide) (by decide) (by decide) (by decide)]
    exact h.cr x hx
  · intro b hb
    rcases hb with rfl | hb
    · exact hA
    · rw [eB b hb]; exact h.kn b (Or.inr hb)
  · rw [eR 47 (by decide) (by decide) (by decide) (by decide) (by decide) (by decide)]; exact h.qc
  · rw [e7 2 (Or.inl rfl)]; exact h.qm
  · have hq5 := h.q5
    rw [eB _ (Or.inl (h.gs.bs (show k < 5 by omega))), eR 217 (by decide) (by decide) (by decide) (by decide) (by decide) (by decide)]
    exact h.hi.2.2.2 k hk
  · have eb : getS N (167 + 23 * x) = getS M (167 + 23 * x) := eB _ (Or.inr (by omega))
    rw [eR 166 (by decide) (by decide) (by decide) (by decide) (by decide) (by decide), eR 220 (by decide) (by decide) (by decide) (by decide) (by decide) (by decide), eR 219 (by decide) (by decide) (by decide) (by decide) (by decide) (by decide), eb]
    exact h.sl x hx
  · rw [eR 214 (by decide) (by decide) (by decide) (by decide) (by decide) (by decide)]; exact h.tx.1
  · rw [e1]; exact h.tx.2.1
  · rw [e7 7 (Or.inr rfl)]; exact h.tx.2.2.1
  · rw [eR 214 (by decide) (by decide) (by decide) (by decide) (by decide) (by decide), eR 221 (by decide) (by decide) (by decide) (by decide) (by decide) (by decide)]; exact h.tx.2.2.2
