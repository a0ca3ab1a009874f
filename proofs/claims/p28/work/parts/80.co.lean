/-! a strip carried out: both worlds -/
theorem Rel.eq23 {f g : hMem} {v : Nat → Int32} {lv c : Nat} (h : Rel f v lv c) (e : ∀ i k, i < 23 → g i k = f i k) : Rel g v lv c := by
  refine ⟨h.wv, ⟨⟨(e 0 3 (by decide)).trans h.sw.lv, h.sw.l16⟩, ⟨(e 0 2 (by decide)).trans h.sw.ct, h.sw.c20⟩, fun j hj => ⟨(e _ 0 (by omega)).trans (h.sw.nu hj), by rw [e _ 1 (by omega)]; exact h.sw.kd hj⟩⟩, fun k h4 h5 => (e 0 k (by decide)).trans (h.sc h4 h5), fun j hj => ?_, fun i hi => (e 2 i (by decide)).trans (h.ho hi)⟩
  have h20 := h.sw.c20
  have a := h.ra hj
  refine ⟨?_, ?_, ?_, fun h0 => ⟨?_, ?_, ?_⟩, fun h0 => ?_⟩
  · rw [e _ _ (by omega)]; exact a.kd
  · rw [e _ _ (by omega)]; exact a.fu
  · rw [e _ _ (by omega)]; exact a.st
  · rw [e _ _ (by omega)]; exact a.le h0
  · rw [e _ _ (by omega)]; exact a.pl h0
  · rw [e _ _ (by omega)]; exact a.ca h0
  · rw [e _ _ (by omega)]; exact a.wh h0
theorem Rel.put {M f : hMem} {o lv c : Nat} {v : Nat → Int32} (h : Rel f v lv c) : Rel (getS (putS M o f) o) v lv c := h.eq23 (fun _ _ hi => getS_same hi)
/-- a slot of the state that stands at 1 -/
theorem getS_up1 {M : hMem} {i k : Nat} {x : Int32} (hi : i < 23) : getS (up2 M (1 + i) k x) 1 = getS (putS M 1 (up2 (getS M 1) i k x)) 1 := by
  rw [← up_S hi, putS_get]
theorem Rel.upM {M : hMem} {lv c i k : Nat} {x : Int32} {v : Nat → Int32} (hi : i < 23) (h : Rel (up2 (getS M 1) i k x) v lv c) : Rel (getS (up2 M (1 + i) k x) 1) v lv c := by
  rw [getS_up1 hi]
  exact h.put
theorem mEn_u {v : Nat → Int32} {c : Nat} {x fu y w : Int32} : mEn (upd v 13 w) c x fu y = mEn v c x fu y := by
  funext i
  by_cases h : i = 13
  · subst h; rw [mEn_13, mEn_13]
  · simp [mEn, upd, h]
theorem mEw_1 {v : Nat → Int32} {x fu y : Int32} (h : mEw v x fu y < 0) : ¬ 0 ≤ mEw v x fu y := fun q => Int32.not_le.mpr h q
theorem mGc_0 {v : Nat → Int32} {lv c : Nat} : ∀ k, ∃ q, q ≤ k ∧ mGc v lv c k = nI q
  | 0 => ⟨0, Nat.le_refl _, nI_0.symm⟩
  | k + 1 => by
    obtain ⟨q, h1, h2⟩ := mGc_0 (v := v) (lv := lv) (c := c) k
    rw [mGc, h2]
    cases mPa (mGo v lv c k) c with
    | none => exact ⟨q, by omega, by show nI q + 0 = nI q; rw [Int32.add_zero]⟩
    | some j => exact ⟨q + 1, by omega, by show nI q + 1 = nI (q + 1); rw [nI_1]⟩
theorem bIn_fu {x : Int32} (h : bIn x 1 9999 = true) : ∃ u, u ≤ 9999 ∧ x = nI u := by
  have h := of_decide_eq_true h
  have h1 := Int32.le_iff_toInt_le.mp h.1
  have h2 := Int32.le_iff_toInt_le.mp h.2
  have e1 : (1 : Int32).toInt = 1 := by decide
  have e2 : (9999 : Int32).toInt = 9999 := by decide
  refine ⟨x.toInt.toNat, by omega, Int32.toInt_inj.mp ?_⟩
  rw [nI_toInt (by omega)]
  omega
theorem mRf_n {v : Nat → Int32} {c : Nat} {x fu y : Int32} (h : mRf v c x fu y = 0) : oI (mOn v y c) = -6 := by
  unfold mRf at h
  by_cases e : oI (mOn v y c) = -6
  · exact e
  · rw [if_pos e] at h; exact absurd h (by decide)
theorem nI_le0 {q : Nat} (h : q < 2 ^ 31) : 0 ≤ nI q := (nI_leI (a := 0) (by decide) h).mpr (Nat.zero_le _)
