/-! both worlds: what the model's row keeps, and how the class's state stands to it -/
/-- one aircraft of the row -/
def WA (v : Nat → Int32) (lv c j : Nat) : Prop :=
  (∃ u, u ≤ 9999 ∧ v (14 + 7 * j + 1) = nI u) ∧ (v (14 + 7 * j + 2) = 0 ∨ v (14 + 7 * j + 2) = 1 ∨ v (14 + 7 * j + 2) = 2) ∧
  (v (14 + 7 * j + 2) = 0 → (∃ l, l < lv ∧ v (14 + 7 * j + 3) = nI l) ∧ (∃ p r, p < r ∧ r ≤ 8 ∧ v (14 + 7 * j + 4) = nI p ∧ v 2 = nI r) ∧ (v (14 + 7 * j + 5) = 0 ∨ v (14 + 7 * j + 5) = 1) ∧
    ∀ k, k < c → v (14 + 7 * k + 2) = 0 → v (14 + 7 * k + 3) = v (14 + 7 * j + 3) → k = j)
/-- the row is as calls leave it -/
def WV (v : Nat → Int32) (lv c : Nat) : Prop :=
  MW v lv c ∧ 4 ≤ lv ∧ (∃ r, 2 ≤ r ∧ r ≤ 8 ∧ v 2 = nI r) ∧ (v 5 = 0 ∨ v 5 = 1) ∧ (v 6 = 0 ∨ v 6 = 1) ∧ (∃ w, w ≤ 4 ∧ v 4 = nI w) ∧ ∀ j, j < c → WA v lv c j
theorem WV.mw {v : Nat → Int32} {lv c : Nat} (h : WV v lv c) : MW v lv c := h.1
theorem WV.l4 {v : Nat → Int32} {lv c : Nat} (h : WV v lv c) : 4 ≤ lv := h.2.1
theorem WV.lap {v : Nat → Int32} {lv c : Nat} (h : WV v lv c) : ∃ r, 2 ≤ r ∧ r ≤ 8 ∧ v 2 = nI r := h.2.2.1
theorem WV.op {v : Nat → Int32} {lv c : Nat} (h : WV v lv c) : v 5 = 0 ∨ v 5 = 1 := h.2.2.2.1
theorem WV.au {v : Nat → Int32} {lv c : Nat} (h : WV v lv c) : v 6 = 0 ∨ v 6 = 1 := h.2.2.2.2.1
theorem WV.wt {v : Nat → Int32} {lv c : Nat} (h : WV v lv c) : ∃ w, w ≤ 4 ∧ v 4 = nI w := h.2.2.2.2.2.1
theorem WV.ac {v : Nat → Int32} {lv c j : Nat} (h : WV v lv c) (hj : j < c) : WA v lv c j := h.2.2.2.2.2.2 j hj
theorem WA.fu {v : Nat → Int32} {lv c j : Nat} (h : WA v lv c j) : ∃ u, u ≤ 9999 ∧ v (14 + 7 * j + 1) = nI u := h.1
theorem WA.st {v : Nat → Int32} {lv c j : Nat} (h : WA v lv c j) : v (14 + 7 * j + 2) = 0 ∨ v (14 + 7 * j + 2) = 1 ∨ v (14 + 7 * j + 2) = 2 := h.2.1
theorem WA.le {v : Nat → Int32} {lv c j : Nat} (h : WA v lv c j) (h0 : v (14 + 7 * j + 2) = 0) : ∃ l, l < lv ∧ v (14 + 7 * j + 3) = nI l := (h.2.2 h0).1
theorem WA.pl {v : Nat → Int32} {lv c j : Nat} (h : WA v lv c j) (h0 : v (14 + 7 * j + 2) = 0) : ∃ p r, p < r ∧ r ≤ 8 ∧ v (14 + 7 * j + 4) = nI p ∧ v 2 = nI r := (h.2.2 h0).2.1
theorem WA.ca {v : Nat → Int32} {lv c j : Nat} (h : WA v lv c j) (h0 : v (14 + 7 * j + 2) = 0) : v (14 + 7 * j + 5) = 0 ∨ v (14 + 7 * j + 5) = 1 := (h.2.2 h0).2.2.1
theorem WA.un {v : Nat → Int32} {lv c j k : Nat} (h : WA v lv c j) (h0 : v (14 + 7 * j + 2) = 0) (hk : k < c) (h1 : v (14 + 7 * k + 2) = 0) (h2 : v (14 + 7 * k + 3) = v (14 + 7 * j + 3)) : k = j := (h.2.2 h0).2.2.2 k hk h1 h2
/-- one aircraft of the class against the row's -/
def RA (f : hMem) (v : Nat → Int32) (j : Nat) : Prop :=
  f (3 + j) 1 = v (14 + 7 * j) ∧ f (3 + j) 2 = v (14 + 7 * j + 1) ∧ f (3 + j) 3 = v (14 + 7 * j + 2) ∧
  (v (14 + 7 * j + 2) = 0 → f (3 + j) 4 = v (14 + 7 * j + 3) ∧ f (3 + j) 5 = v (14 + 7 * j + 4) ∧ f (3 + j) 6 = v (14 + 7 * j + 5)) ∧ (¬ v (14 + 7 * j + 2) = 0 → f (3 + j) 7 = v (14 + 7 * j + 6))
theorem RA.kd {f : hMem} {v : Nat → Int32} {j : Nat} (h : RA f v j) : f (3 + j) 1 = v (14 + 7 * j) := h.1
theorem RA.fu {f : hMem} {v : Nat → Int32} {j : Nat} (h : RA f v j) : f (3 + j) 2 = v (14 + 7 * j + 1) := h.2.1
theorem RA.st {f : hMem} {v : Nat → Int32} {j : Nat} (h : RA f v j) : f (3 + j) 3 = v (14 + 7 * j + 2) := h.2.2.1
theorem RA.le {f : hMem} {v : Nat → Int32} {j : Nat} (h : RA f v j) (h0 : v (14 + 7 * j + 2) = 0) : f (3 + j) 4 = v (14 + 7 * j + 3) := (h.2.2.2.1 h0).1
theorem RA.pl {f : hMem} {v : Nat → Int32} {j : Nat} (h : RA f v j) (h0 : v (14 + 7 * j + 2) = 0) : f (3 + j) 5 = v (14 + 7 * j + 4) := (h.2.2.2.1 h0).2.1
theorem RA.ca {f : hMem} {v : Nat → Int32} {j : Nat} (h : RA f v j) (h0 : v (14 + 7 * j + 2) = 0) : f (3 + j) 6 = v (14 + 7 * j + 5) := (h.2.2.2.1 h0).2.2
theorem RA.wh {f : hMem} {v : Nat → Int32} {j : Nat} (h : RA f v j) (h0 : ¬ v (14 + 7 * j + 2) = 0) : f (3 + j) 7 = v (14 + 7 * j + 6) := h.2.2.2.2 h0
/-- which slot of the row a slot of the class's state answers to -/
def rs (k : Nat) : Nat := match k with
  | 4 => 2
  | 5 => 7
  | 6 => 5
  | 7 => 6
  | 8 => 4
  | 9 => 0
  | 10 => 8
  | 11 => 9
  | 12 => 10
  | 13 => 11
  | 14 => 12
  | _ => 13
/-- the class's state says what the row says -/
def Rel (f : hMem) (v : Nat → Int32) (lv c : Nat) : Prop :=
  WV v lv c ∧ SW f lv c ∧ (∀ k, 4 ≤ k → k ≤ 15 → f 0 k = v (rs k)) ∧ (∀ j, j < c → RA f v j) ∧ ∀ i, i < 16 → f 2 i = oI (mOn v (nI i) c)
theorem Rel.wv {f : hMem} {v : Nat → Int32} {lv c : Nat} (h : Rel f v lv c) : WV v lv c := h.1
theorem Rel.sw {f : hMem} {v : Nat → Int32} {lv c : Nat} (h : Rel f v lv c) : SW f lv c := h.2.1
theorem Rel.sc {f : hMem} {v : Nat → Int32} {lv c k : Nat} (h : Rel f v lv c) (h4 : 4 ≤ k) (h5 : k ≤ 15) : f 0 k = v (rs k) := h.2.2.1 k h4 h5
theorem Rel.ra {f : hMem} {v : Nat → Int32} {lv c j : Nat} (h : Rel f v lv c) (hj : j < c) : RA f v j := h.2.2.2.1 j hj
theorem Rel.ho {f : hMem} {v : Nat → Int32} {lv c i : Nat} (h : Rel f v lv c) (hi : i < 16) : f 2 i = oI (mOn v (nI i) c) := h.2.2.2.2 i hi
/-- who holds on a level -/
theorem mOn_iff {v : Nat → Int32} {x : Int32} {n j : Nat} : mOn v x n = some j → (j < n ∧ v (14 + 7 * j + 2) = 0 ∧ v (14 + 7 * j + 3) = x) := mOn_lt
theorem mOn_no {v : Nat → Int32} {x : Int32} {n j : Nat} (h : mOn v x n = none) (hj : j < n) : ¬ (v (14 + 7 * j + 2) = 0 ∧ v (14 + 7 * j + 3) = x) := by
  induction n with
  | zero => exact absurd hj (Nat.not_lt_zero _)
  | succ n ih =>
    intro hh
    rw [mOn] at h
    cases h1 : mOn v x n with
    | some i => rw [h1] at h; cases h
    | none =>
      rw [h1] at h
      simp only at h
      split at h
      · cases h
      · next h2 =>
        by_cases e : j = n
        · subst e; exact h2 hh
        · exact ih h1 (by omega) hh
theorem mOn_is {v : Nat → Int32} {lv c j : Nat} (h : WV v lv c) (hj : j < c) (h0 : v (14 + 7 * j + 2) = 0) : mOn v (v (14 + 7 * j + 3)) c = some j := by
  cases h1 : mOn v (v (14 + 7 * j + 3)) c with
  | none => exact absurd ⟨h0, rfl⟩ (mOn_no h1 hj)
  | some i =>
    have h2 := mOn_lt h1
    rw [(h.ac hj).un h0 h2.1 h2.2.1 h2.2.2]
theorem bHas_n {f : hMem} {lv c i : Nat} (h : SW f lv c) (hi : i < lv) : bHas f (nI i) = true := by
  have := h.l16
  unfold bHas
  refine decide_eq_true ⟨?_, ?_, (nI_ltI (by omega) (by decide)).mpr (by omega)⟩
  · rw [Int32.le_iff_toInt_le, nI_toInt (by omega)]; exact Int.natCast_nonneg i
  · rw [h.lv]; exact (nI_ltI (by omega) (by omega)).mpr hi
theorem sNum_n {f : hMem} {lv c j : Nat} (h : SW f lv c) (hj : j < c) : sNum f (nI j) = some j := by
  have := h.c20
  unfold sNum
  rw [if_pos, nI_clamp (by omega)]
  refine ⟨?_, ?_, (nI_ltI (by omega) (by decide)).mpr (by omega)⟩
  · rw [Int32.le_iff_toInt_le, nI_toInt (by omega)]; exact Int.natCast_nonneg j
  · rw [h.ct]; exact (nI_ltI (by omega) (by omega)).mpr hj
theorem sNum_6 {f : hMem} : sNum f (-6) = none := by
  unfold sNum
  rw [if_neg]
  exact fun e => absurd e.1 (by decide)
theorem Rel.on {f : hMem} {v : Nat → Int32} {lv c i : Nat} (h : Rel f v lv c) (hi : i < lv) : sHold f (nI i) = mOn v (nI i) c := by
  have := h.sw.l16
  unfold sHold
  rw [if_pos (bHas_n h.sw hi), nI_clamp (by omega), h.ho (by omega)]
  cases h1 : mOn v (nI i) c with
  | none => exact sNum_6
  | some j => exact sNum_n h.sw (mOn_lt h1).1
theorem Rel.fr {f : hMem} {v : Nat → Int32} {lv c i : Nat} (h : Rel f v lv c) (hi : i < lv) : bFree f (nI i) = decide (mOn v (nI i) c = none) := by
  have h1 := h.sw.l16
  have h2 := h.sw.c20
  unfold bFree
  rw [nI_clamp (by omega), h.ho (by omega)]
  cases h3 : mOn v (nI i) c with
  | none => rw [decide_eq_true (p := (none : Option Nat) = none) rfl]; exact decide_eq_true ⟨bHas_n h.sw hi, rfl⟩
  | some j =>
    rw [decide_eq_false (p := some j = none) (by simp)]
    refine decide_eq_false (fun e => ?_)
    have := oI_6 e.2 (fun i2 e2 => by cases e2; have := (mOn_lt h3).1; omega)
    cases this
/-! sums -/
def sm (b : Nat → Int32) : Nat → Int32
  | 0 => 0
  | n + 1 => sm b n + b n
theorem sm_eq {a b : Nat → Int32} {n : Nat} (h : ∀ i, i < n → a i = b i) : sm a n = sm b n := by
  induction n with
  | zero => rfl
  | succ n ih => rw [sm, sm, ih (fun i hi => h i (by omega)), h n (Nat.lt_succ_self n)]
theorem sm_one {a b : Nat → Int32} {n l : Nat} (hl : l < n) (h : ∀ i, i < n → i ≠ l → a i = b i) (h0 : b l = 0) : sm a n = sm b n + a l := by
  induction n with
  | zero => exact absurd hl (Nat.not_lt_zero _)
  | succ n ih =>
    by_cases e : l = n
    · subst e
      rw [sm, sm, sm_eq (fun i hi => h i (by omega) (by omega)), h0, Int32.add_zero]
    · rw [sm, sm, ih (by omega) (fun i hi => h i (by omega)), h n (Nat.lt_succ_self n) (fun q => e q.symm), Int32.add_assoc, Int32.add_assoc, Int32.add_comm (a l)]
theorem sm_0 {a : Nat → Int32} {n : Nat} (h : ∀ i, i < n → a i = 0) : sm a n = 0 := by
  induction n with
  | zero => rfl
  | succ n ih => rw [sm, ih (fun i hi => h i (by omega)), h n (Nat.lt_succ_self n)]; rfl
def oG (g : Nat → Int32) (q : Option Nat) : Int32 := match q with
  | none => 0
  | some j => g j
/-- over the levels, over the aircraft: the same sum -/
theorem sm_lv {v : Nat → Int32} {lv c : Nat} (h : WV v lv c) (g : Nat → Int32) {a : Nat} (ha : a ≤ c) :
    sm (fun i => oG g (mOn v (nI i) a)) lv = sm (fun j => if v (14 + 7 * j + 2) = 0 then g j else 0) a := by
  have hl := h.mw.l16
  induction a with
  | zero => exact sm_0 (fun i _ => rfl)
  | succ a ih =>
    rw [sm, ← ih (by omega)]
    by_cases h0 : v (14 + 7 * a + 2) = 0
    · rw [if_pos h0]
      obtain ⟨l, hl1, hl2⟩ := (h.ac (show a < c by omega)).le h0
      have hn : mOn v (nI l) a = none := by
        cases h1 : mOn v (nI l) a with
        | none => rfl
        | some k =>
          have h2 := mOn_lt h1
          have := (h.ac (show a < c by omega)).un h0 (by omega) h2.2.1 (h2.2.2.trans hl2.symm)
          omega
      have hs : mOn v (nI l) (a + 1) = some a := mOn_s hn ⟨h0, hl2⟩
      rw [sm_one (l := l) (b := fun i => oG g (mOn v (nI i) a)) hl1 (fun i hi hne => ?_) (by rw [hn]; rfl)]
      · rw [hs]; rfl
      · have : ¬ (v (14 + 7 * a + 2) = 0 ∧ v (14 + 7 * a + 3) = nI i) := fun e => hne (((nI_eq (by omega) (by omega)).mp (hl2.symm.trans e.2)).symm)
        cases h1 : mOn v (nI i) a with
        | none => rw [mOn_n h1 this]
        | some k => rw [mOn_le h1 (Nat.le_succ a)]
    · rw [if_neg h0, Int32.add_zero]
      refine sm_eq (fun i hi => ?_)
      cases h1 : mOn v (nI i) a with
      | none => rw [mOn_n h1 (fun e => h0 e.1)]
      | some k => rw [mOn_le h1 (Nat.le_succ a)]
