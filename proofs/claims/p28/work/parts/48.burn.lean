/-! a minute's fuel: the class by levels, the model by aircraft -/
theorem nI_sub {a b : Nat} (h : b ≤ a) : nI a - nI b = nI (a - b) := by
  rw [show nI a = nI (a - b) + nI b by rw [nI_add, Nat.sub_add_cancel h], Int32.add_sub_cancel]
theorem burn_tab : ∀ l, l < 16 → (1 ≤ (4 - 4 * nI l / 40).toNatClampNeg ∧ (4 - 4 * nI l / 40).toNatClampNeg ≤ 18 ∧ nI (4 - 4 * nI l / 40).toNatClampNeg = 4 - 4 * nI l / 40) ∧
    (1 ≤ (9 - 9 * nI l / 40).toNatClampNeg ∧ (9 - 9 * nI l / 40).toNatClampNeg ≤ 18 ∧ nI (9 - 9 * nI l / 40).toNatClampNeg = 9 - 9 * nI l / 40) ∧
    (1 ≤ (18 - 18 * nI l / 40).toNatClampNeg ∧ (18 - 18 * nI l / 40).toNatClampNeg ≤ 18 ∧ nI (18 - 18 * nI l / 40).toNatClampNeg = 18 - 18 * nI l / 40) := by decide +kernel
theorem burn_n {x : Int32} (h : hk x) {l : Nat} (hl : l < 16) : ∃ b, 1 ≤ b ∧ b ≤ 18 ∧ kRate x - kRate x * nI l / 40 = nI b := by
  have t := burn_tab l hl
  rcases h with rfl | rfl | rfl
  · exact ⟨_, t.1.1, t.1.2.1, t.1.2.2.symm⟩
  · exact ⟨_, t.2.1.1, t.2.1.2.1, t.2.1.2.2.symm⟩
  · exact ⟨_, t.2.2.1, t.2.2.2.1, t.2.2.2.2.symm⟩
def mBq (v : Nat → Int32) (j : Nat) : Int32 := if mBurn v j (v (14 + 7 * j + 3)) < v (14 + 7 * j + 1) then mBurn v j (v (14 + 7 * j + 3)) else v (14 + 7 * j + 1)
def mPl (v : Nat → Int32) (j : Nat) : Int32 := if v (14 + 7 * j + 4) + 1 = v 2 then 0 else v (14 + 7 * j + 4) + 1
theorem mBurn_n {v : Nat → Int32} {lv c j : Nat} (h : WV v lv c) (hj : j < c) (h0 : v (14 + 7 * j + 2) = 0) : ∃ b, 1 ≤ b ∧ b ≤ 18 ∧ mBurn v j (v (14 + 7 * j + 3)) = nI b := by
  obtain ⟨l, h1, h2⟩ := (h.ac hj).le h0
  have h3 := burn_n (h.mw.kd hj) (l := l) (by have := h.mw.l16; omega)
  unfold mBurn
  rw [h2]
  exact h3
/-- what is burned, and what is left, in whole numbers -/
theorem mBq_n {v : Nat → Int32} {lv c j : Nat} (h : WV v lv c) (hj : j < c) (h0 : v (14 + 7 * j + 2) = 0) : ∃ q u, q ≤ u ∧ u ≤ 9999 ∧ v (14 + 7 * j + 1) = nI u ∧ mBq v j = nI q := by
  obtain ⟨b, h1, h2, h3⟩ := mBurn_n h hj h0
  obtain ⟨u, h4, h5⟩ := (h.ac hj).fu
  unfold mBq
  rw [h3, h5]
  by_cases h6 : b < u
  · exact ⟨b, u, by omega, h4, rfl, if_pos ((nI_ltI (by omega) (by omega)).mpr h6)⟩
  · exact ⟨u, u, Nat.le_refl _, h4, rfl, if_neg (fun e => h6 ((nI_ltI (by omega) (by omega)).mp e))⟩
theorem mPl_n {v : Nat → Int32} {lv c j : Nat} (h : WV v lv c) (hj : j < c) (h0 : v (14 + 7 * j + 2) = 0) : ∃ p r, p < r ∧ r ≤ 8 ∧ mPl v j = nI p ∧ v 2 = nI r := by
  obtain ⟨p, r, h1, h2, h3, h4⟩ := (h.ac hj).pl h0
  unfold mPl
  rw [h3, h4, nI_1]
  by_cases h5 : p + 1 = r
  · exact ⟨0, r, by omega, h2, if_pos (by rw [h5]), rfl⟩
  · exact ⟨p + 1, r, by omega, h2, if_neg (fun e => h5 ((nI_eq (by omega) (by omega)).mp e)), rfl⟩
theorem iMin_eq {a b : Int32} : iMin a b = if a < b then a else b := by
  unfold iMin
  by_cases h : b < a
  · rw [if_pos h, if_neg (fun e => absurd (Int32.lt_iff_toInt_lt.mp e) (by have := Int32.lt_iff_toInt_lt.mp h; omega))]
  · rw [if_neg h]
    by_cases h2 : a < b
    · rw [if_pos h2]
    · rw [if_neg h2]
      refine Int32.toInt_inj.mp ?_
      have h3 := mt Int32.lt_iff_toInt_lt.mpr h
      have h4 := mt Int32.lt_iff_toInt_lt.mpr h2
      omega
theorem mB1_t {w v : Nat → Int32} {a : Nat} (hw : ∀ k, k < 7 → w (14 + 7 * a + k) = v (14 + 7 * a + k)) (h2 : w 2 = v 2) (h0 : v (14 + 7 * a + 2) = 0) :
    mB1 w a = upd (upd (upd w (14 + 7 * a + 1) (v (14 + 7 * a + 1) - mBq v a)) 10 (w 10 + mBq v a)) (14 + 7 * a + 4) (mPl v a) := by
  have e0 : w (14 + 7 * a) = v (14 + 7 * a) := hw 0 (by decide)
  have eB : mBurn w a (v (14 + 7 * a + 3)) = mBurn v a (v (14 + 7 * a + 3)) := by unfold mBurn; rw [e0]
  unfold mB1
  rw [hw 2 (by decide), if_pos h0, hw 3 (by decide), eB, hw 1 (by decide)]
  simp only
  rw [upd_n (show (14 + 7 * a + 4) ≠ 10 by omega), upd_n (show (14 + 7 * a + 4) ≠ 14 + 7 * a + 1 by omega), upd_n (show (2 : Nat) ≠ 10 by decide), upd_n (show (2 : Nat) ≠ 14 + 7 * a + 1 by omega),
    upd_n (show (10 : Nat) ≠ 14 + 7 * a + 1 by omega), hw 4 (by decide), h2]
  rfl
theorem mB1_f {w v : Nat → Int32} {a : Nat} (hw : ∀ k, k < 7 → w (14 + 7 * a + k) = v (14 + 7 * a + k)) (h0 : ¬ v (14 + 7 * a + 2) = 0) : mB1 w a = w := by
  unfold mB1
  rw [hw 2 (by decide), if_neg h0]
/-- the row after the first a aircraft have burned -/
theorem mBs_at {v : Nat → Int32} (a : Nat) : (∀ k, k < 14 → k ≠ 10 → mBs v a k = v k) ∧ mBs v a 10 = v 10 + sm (fun j => if v (14 + 7 * j + 2) = 0 then mBq v j else 0) a ∧
    ∀ j k, k < 7 → mBs v a (14 + 7 * j + k) = if j < a ∧ v (14 + 7 * j + 2) = 0 ∧ k = 1 then v (14 + 7 * j + 1) - mBq v j else if j < a ∧ v (14 + 7 * j + 2) = 0 ∧ k = 4 then mPl v j else v (14 + 7 * j + k) := by
  induction a with
  | zero => exact ⟨fun _ _ _ => rfl, by rw [sm, Int32.add_zero]; rfl, fun j k _ => by rw [if_neg (by omega), if_neg (by omega)]; rfl⟩
  | succ a ih =>
    obtain ⟨i1, i2, i3⟩ := ih
    have hw : ∀ k, k < 7 → mBs v a (14 + 7 * a + k) = v (14 + 7 * a + k) := fun k hk => by rw [i3 a k hk, if_neg (by omega), if_neg (by omega)]
    have h2 := i1 2 (by decide) (by decide)
    rw [mBs]
    by_cases h0 : v (14 + 7 * a + 2) = 0
    · rw [mB1_t hw h2 h0]
      refine ⟨fun k hk h10 => ?_, ?_, fun j k hk => ?_⟩
      · rw [upd_n (by omega), upd_n h10, upd_n (by omega), i1 k hk h10]
      · rw [upd_n (by omega), upd_s, i2, sm, if_pos h0, Int32.add_assoc]
      · by_cases e : j = a
        · subst e
          by_cases k4 : k = 4
          · subst k4; rw [upd_s, if_neg (by omega), if_pos ⟨Nat.lt_succ_self _, h0, rfl⟩]
          · rw [upd_n (by omega), upd_n (by omega)]
            by_cases k1 : k = 1
            · subst k1; rw [upd_s, if_pos ⟨Nat.lt_succ_self _, h0, rfl⟩]
            · rw [upd_n (by omega), hw k hk, if_neg (by omega), if_neg (by omega)]
        · rw [upd_n (by omega), upd_n (by omega), upd_n (by omega), i3 j k hk]
          have e2 : (j < a + 1) = (j < a) := by simp; omega
          simp only [e2]
    · rw [mB1_f hw h0]
      refine ⟨i1, ?_, fun j k hk => ?_⟩
      · rw [i2, sm, if_neg h0, Int32.add_zero]
      · rw [i3 j k hk]
        by_cases e : j = a
        · subst e
          rw [if_neg (by omega), if_neg (by omega), if_neg (fun q => h0 q.2.1), if_neg (fun q => h0 q.2.1)]
        · have e2 : (j < a + 1) = (j < a) := by simp; omega
          simp only [e2]
theorem sHold_c {f g : hMem} {x : Int32} (h2 : g 0 2 = f 0 2) (h3 : g 0 3 = f 0 3) (h : g 2 = f 2) : sHold g x = sHold f x := by
  unfold sHold bHas sNum
  rw [h2, h3, h]
/-- the class's state after the levels below i have burned -/
theorem bf_at {f : hMem} {v : Nat → Int32} {lv c : Nat} (h : Rel f v lv c) {i : Nat} (hi : i ≤ lv) :
    (∀ k, k ≠ 12 → bf f i 0 k = f 0 k) ∧ bf f i 2 = f 2 ∧ bf f i 0 12 = v 10 + sm (fun l => oG (mBq v) (mOn v (nI l) c)) i ∧ (∀ j k, k ≠ 2 → k ≠ 5 → bf f i (3 + j) k = f (3 + j) k) ∧
    ∀ j, j < c → ((v (14 + 7 * j + 2) = 0 ∧ ∃ l, l < i ∧ v (14 + 7 * j + 3) = nI l) → bf f i (3 + j) 2 = v (14 + 7 * j + 1) - mBq v j ∧ bf f i (3 + j) 5 = mPl v j) ∧
      (¬ (v (14 + 7 * j + 2) = 0 ∧ ∃ l, l < i ∧ v (14 + 7 * j + 3) = nI l) → bf f i (3 + j) 2 = f (3 + j) 2 ∧ bf f i (3 + j) 5 = f (3 + j) 5) := by
  have hl16 := h.sw.l16
  induction i with
  | zero => exact ⟨fun _ _ => rfl, rfl, by rw [sm, Int32.add_zero]; exact h.sc (k := 12) (by decide) (by decide), fun _ _ _ _ => rfl, fun j hj => ⟨fun e => by obtain ⟨-, l, h1, -⟩ := e; omega, fun _ => ⟨rfl, rfl⟩⟩⟩
  | succ i ih =>
    obtain ⟨i1, i2, i3, i4, i5⟩ := ih (by omega)
    have hs : sHold (bf f i) (nI i) = mOn v (nI i) c := (sHold_c (i1 2 (by decide)) (i1 3 (by decide)) i2).trans (h.on (by omega))
    cases hm : mOn v (nI i) c with
    | none =>
      rw [bf_none (hs.trans hm)]
      refine ⟨i1, i2, ?_, i4, fun j hj => ?_⟩
      · rw [i3, sm, hm]; exact (Int32.add_zero _).symm.trans (Int32.add_assoc _ _ _)
      · have e : (v (14 + 7 * j + 2) = 0 ∧ ∃ l, l < i + 1 ∧ v (14 + 7 * j + 3) = nI l) ↔ (v (14 + 7 * j + 2) = 0 ∧ ∃ l, l < i ∧ v (14 + 7 * j + 3) = nI l) := by
          refine ⟨fun q => ⟨q.1, ?_⟩, fun q => ⟨q.1, by obtain ⟨-, l, h1, h2⟩ := q; exact ⟨l, by omega, h2⟩⟩⟩
          obtain ⟨q0, l, h1, h2⟩ := q
          refine ⟨l, ?_, h2⟩
          by_cases el : l = i
          · subst el; exact absurd ⟨q0, h2⟩ (mOn_no hm hj)
          · omega
        rw [e]
        exact i5 j hj
    | some j0 =>
      have hj0 := mOn_lt hm
      have ha := h.ra hj0.1
      obtain ⟨p, r, hp1, hp2, hp3, hp4⟩ := (h.wv.ac hj0.1).pl hj0.2.1
      have hn : ¬ (v (14 + 7 * j0 + 2) = 0 ∧ ∃ l, l < i ∧ v (14 + 7 * j0 + 3) = nI l) := by
        rintro ⟨-, l, h1, h2⟩
        have := (nI_eq (by omega) (by omega)).mp (h2.symm.trans hj0.2.2)
        omega
      have h50 := (i5 j0 hj0.1).2 hn
      have eq1 : bf f i (3 + j0) 1 = v (14 + 7 * j0) := (i4 j0 1 (by decide) (by decide)).trans ha.kd
      have eq4 : bf f i (3 + j0) 4 = v (14 + 7 * j0 + 3) := (i4 j0 4 (by decide) (by decide)).trans (ha.le hj0.2.1)
      have eq2 : bf f i (3 + j0) 2 = v (14 + 7 * j0 + 1) := h50.1.trans ha.fu
      have eq5 : bf f i (3 + j0) 5 = v (14 + 7 * j0 + 4) := h50.2.trans (ha.pl hj0.2.1)
      have eL : bf f i 0 4 = v 2 := (i1 4 (by decide)).trans (h.sc (k := 4) (by decide) (by decide))
      have eb : aBm (bf f i) (3 + j0) = mBq v j0 := by
        unfold aBm
        rw [iMin_eq, eq1, eq2, eq4]
        rfl
      have ep : ∀ g : hMem, g (3 + j0) 5 = v (14 + 7 * j0 + 4) → aFly g (3 + j0) (v 2) = mPl v j0 := by
        intro g hg
        unfold aFly mPl
        rw [hg, hp3, hp4, nI_1]
        by_cases e : p + 1 = r
        · rw [e, if_pos (Int32.le_refl _), if_pos rfl]
        · rw [if_neg (fun q => e (by have := (nI_leI (by omega) (by omega)).mp q; omega)), if_neg (fun q => e ((nI_eq (by omega) (by omega)).mp q))]
      have hsb : sBurn (bf f i) j0 = up2 (up2 (bf f i) (3 + j0) 2 (v (14 + 7 * j0 + 1) - mBq v j0)) 0 12 (bf f i 0 12 + mBq v j0) := by
        unfold sBurn
        rw [eb, eq2]
      have hB : sBF (bf f i) j0 = up2 (up2 (up2 (bf f i) (3 + j0) 2 (v (14 + 7 * j0 + 1) - mBq v j0)) 0 12 (bf f i 0 12 + mBq v j0)) (3 + j0) 5 (mPl v j0) := by
        unfold sBF
        rw [hsb, up2_off (b := 0) (j := 4) (by omega), up2_off (b := 0) (j := 4) (by omega), eL, ep _ ((up2_off (by omega)).trans ((up2_off (by omega)).trans eq5))]
      rw [bf_some (hs.trans hm), hB]
      refine ⟨fun k hk => ?_, ?_, ?_, fun j k hk2 hk5 => ?_, fun j hj => ⟨fun e => ?_, fun e => ?_⟩⟩
      · rw [up2_off (by omega), up2_off (by omega), up2_off (by omega), i1 k hk]
      · rw [up2_row (by omega), up2_row (by omega), up2_row (by omega), i2]
      · rw [up2_off (by omega), up2_same, i3, sm, hm, Int32.add_assoc]; rfl
      · rw [up2_off (by omega), up2_off (by omega), up2_off (by omega), i4 j k hk2 hk5]
      · by_cases ej : j = j0
        · subst ej
          exact ⟨by rw [up2_off (by omega), up2_off (by omega), up2_same], up2_same⟩
        · have e9 : v (14 + 7 * j + 2) = 0 ∧ ∃ l, l < i ∧ v (14 + 7 * j + 3) = nI l := by
            obtain ⟨e0, l, h1, h2⟩ := e
            refine ⟨e0, l, ?_, h2⟩
            by_cases el : l = i
            · subst el; exact absurd ((h.wv.ac hj0.1).un hj0.2.1 hj e0 (h2.trans hj0.2.2.symm)) ej
            · omega
          rw [up2_off (by omega), up2_off (by omega), up2_off (by omega), up2_off (by omega), up2_off (by omega), up2_off (by omega)]
          exact (i5 j hj).1 e9
      · by_cases ej : j = j0
        · subst ej
          exact absurd ⟨hj0.2.1, i, Nat.lt_succ_self i, hj0.2.2⟩ e
        · rw [up2_off (by omega), up2_off (by omega), up2_off (by omega), up2_off (by omega), up2_off (by omega), up2_off (by omega)]
          exact (i5 j hj).2 (fun q => e ⟨q.1, by obtain ⟨-, l, h1, h2⟩ := q; exact ⟨l, by omega, h2⟩⟩)
