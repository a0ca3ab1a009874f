/-! the parsers: going well, gone wrong -/
def pOk (s : Nat → Int32) (L p : Nat) : Prop := s 1 = nI L ∧ s 2 = nI p ∧ s 3 = -6
def pBad (s : Nat → Int32) (p : Nat) : Prop := s 3 = nI p
theorem nI_n6 {p : Nat} (h : p ≤ 100) : ¬ nI p = -6 := fun e => by
  have := congrArg Int32.toInt e
  rw [nI_toInt (by omega)] at this
  have e1 : (-6 : Int32).toInt = -6 := by decide
  omega
theorem pBad.fail {s : Nat → Int32} {p : Nat} {x : Int32} (h : pBad s p) (hp : p ≤ 100) : sFail s x = s := by
  unfold sFail
  rw [if_neg]
  rw [h]
  exact nI_n6 hp
theorem pBad.up {s : Nat → Int32} {p k : Nat} {x : Int32} (h : pBad s p) (hk : k ≠ 3) : pBad (upd s k x) p := (upd_n (fun e => hk e.symm)).trans h
theorem pOk.up {s : Nat → Int32} {L p k : Nat} {x : Int32} (h : pOk s L p) (hk : 4 ≤ k) : pOk (upd s k x) L p := ⟨(upd_n (by omega)).trans h.1, (upd_n (by omega)).trans h.2.1, (upd_n (by omega)).trans h.2.2⟩
theorem pOk.to {s : Nat → Int32} {L p p2 : Nat} (h : pOk s L p) : pOk (upd s 2 (nI p2)) L p2 := ⟨(upd_n (by decide)).trans h.1, upd_s, (upd_n (by decide)).trans h.2.2⟩
theorem pOk.fail {s : Nat → Int32} {L p q : Nat} (h : pOk s L p) : pBad (sFail s (nI q)) q := by
  unfold sFail
  rw [if_pos h.2.2]
  exact upd_s
theorem pBad.exp {t s : Nat → Int32} {p : Nat} {x : Int32} (h : pBad s p) (hp : p ≤ 100) : pBad (sExp t s x) p := by
  unfold sExp
  split
  · exact h.up (by decide)
  · rw [h.fail hp]; exact h
theorem pBad.rnLx {t : Nat → Int32} : ∀ (k : Nat) {s : Nat → Int32} {x : Int32} {p : Nat}, pBad s p → pBad (rnL t k s x).2 p
  | 0, _, _, _, h => h
  | k + 1, s, x, p, h => by
    unfold rnL
    split
    · exact pBad.rnLx k (h.up (by decide))
    · exact h
theorem pBad.num {t s : Nat → Int32} {p : Nat} {lo hi : Int32} (h : pBad s p) (hp : p ≤ 100) : pBad (sNm t s lo hi).2 p := by
  have h1 : pBad (rnL t (rnD t s) s 0).2 p := pBad.rnLx _ h
  unfold sNm rnE
  split
  · show pBad (sFail _ _) p
    rw [h1.fail hp]; exact h1
  · exact h1
/-- a number out of a good state -/
theorem pOk.num {t s : Nat → Int32} {L p : Nat} {lo hi : Int32} (h : pOk s L p) (ht : txO t L) (hp : p ≤ L) :
    (mIs t L p lo hi = true → pOk (sNm t s lo hi).2 L (mIp t L p lo hi)) ∧ (mIs t L p lo hi = false → pBad (sNm t s lo hi).2 (mIp t L p lo hi)) := by
  unfold mIs mIp
  cases hn : mNu t L p with
  | none =>
    rw [sNm_none ht h.1 h.2.1 hp hn]
    exact ⟨fun e => (by cases e), fun _ => h.fail⟩
  | some q =>
    rw [sNm_some ht h.1 h.2.1 hp hn]
    simp only
    by_cases e : bIn q.1 lo hi = true
    · rw [if_pos e, if_pos e]
      exact ⟨fun _ => h.to, fun x => by rw [e] at x; cases x⟩
    · rw [if_neg e, if_neg e]
      exact ⟨fun x => absurd x e, fun _ => (h.to (p2 := q.2)).fail⟩
