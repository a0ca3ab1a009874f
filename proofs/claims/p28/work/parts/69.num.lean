/-! the parsers: a character, a number -/
/-- the text's characters are those that append takes -/
def txO (t : Nat → Int32) (L : Nat) : Prop := L ≤ 80 ∧ ∀ p, p < L → ∃ q, 32 ≤ q ∧ q ≤ 126 ∧ t p = nI q
theorem sPk_n {t s : Nat → Int32} {L p : Nat} (h : L ≤ 80) (h1 : s 1 = nI L) (h2 : s 2 = nI p) (hp : p < 2 ^ 31) : sPk t s = if p < L then t p else 0 := by
  unfold sPk
  rw [h1, h2]
  by_cases e : p < L
  · rw [if_pos e, if_pos ⟨(nI_leI (a := 0) (by decide) hp).mpr (Nat.zero_le _), (nI_ltI hp (by omega)).mpr e, (nI_ltI hp (by decide)).mpr (by omega)⟩, nI_clamp hp]
  · rw [if_neg e, if_neg (fun q => e ((nI_ltI hp (by omega)).mp q.2.1))]
theorem sPk_is {t s : Nat → Int32} {L p q : Nat} (h : txO t L) (h1 : s 1 = nI L) (h2 : s 2 = nI p) (hp : p < 2 ^ 31) (hq : 1 ≤ q) (hq2 : q < 128) : sPk t s = nI q ↔ mHe t L p = nI q := by
  rw [sPk_n h.1 h1 h2 hp]
  unfold mHe
  by_cases e : p < L
  · rw [if_pos e, if_pos e]
  · rw [if_neg e, if_neg e]
    refine ⟨fun x => ?_, fun x => ?_⟩
    · have := (nI_eq (a := 0) (by decide) (by omega)).mp x; omega
    · have := congrArg Int32.toInt x
      rw [nI_toInt (by omega)] at this
      have e1 : (-1 : Int32).toInt = -1 := by decide
      omega
theorem bDig_is {t s : Nat → Int32} {L p : Nat} (h : txO t L) (h1 : s 1 = nI L) (h2 : s 2 = nI p) (hp : p < 2 ^ 31) : bDig (sPk t s) = bIn (mHe t L p) 48 57 ∧ (bIn (mHe t L p) 48 57 = true → sPk t s = mHe t L p) := by
  rw [sPk_n h.1 h1 h2 hp]
  unfold mHe
  by_cases e : p < L
  · rw [if_pos e, if_pos e]; exact ⟨rfl, fun _ => rfl⟩
  · rw [if_neg e, if_neg e]
    exact ⟨by decide, fun x => absurd x (by decide)⟩
