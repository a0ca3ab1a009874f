/-! what the minutes leave, aircraft by aircraft, over one row of numbers (no bytecode) -/
/-- the model's three rows of constants -/
def CR (M : hMem) : Prop := ∀ x, hk x → M 223 x.toNatClampNeg = kRate x ∧ M 224 x.toNatClampNeg = kRes x ∧ M 225 x.toNatClampNeg = kWake x
theorem hk_in {x : Int32} (h : hk x) : vp_in x 3 := by rcases h with rfl | rfl | rfl <;> (rw [vp_in_iff]; decide)
/-- the model's numbers: levels, aircraft, kinds -/
def MW (v : Nat → Int32) (lv c : Nat) : Prop := (v 1 = nI lv ∧ lv ≤ 16) ∧ (v 3 = nI c ∧ c ≤ 20) ∧ ∀ j, j < c → hk (v (14 + 7 * j))
theorem MW.lv {v : Nat → Int32} {lv c : Nat} (h : MW v lv c) : v 1 = nI lv := h.1.1
theorem MW.l16 {v : Nat → Int32} {lv c : Nat} (h : MW v lv c) : lv ≤ 16 := h.1.2
theorem MW.ct {v : Nat → Int32} {lv c : Nat} (h : MW v lv c) : v 3 = nI c := h.2.1.1
theorem MW.c20 {v : Nat → Int32} {lv c : Nat} (h : MW v lv c) : c ≤ 20 := h.2.1.2
theorem MW.kd {v : Nat → Int32} {lv c j : Nat} (h : MW v lv c) (hj : j < c) : hk (v (14 + 7 * j)) := h.2.2 j hj
theorem upd_n {f : Nat → Int32} {k j : Nat} {x : Int32} (h : j ≠ k) : upd f k x j = f j := by simp [upd, h]
theorem upd_s {f : Nat → Int32} {k : Nat} {x : Int32} : upd f k x k = x := by simp [upd]
theorem MW.up {v : Nat → Int32} {lv c k : Nat} {x : Int32} (h : MW v lv c) (h1 : k ≠ 1 ∧ k ≠ 3) (h2 : ∀ j, k ≠ 14 + 7 * j) : MW (upd v k x) lv c :=
  ⟨⟨(upd_n (by omega)).trans h.lv, h.l16⟩, ⟨(upd_n (by omega)).trans h.ct, h.c20⟩, fun j hj => by rw [upd_n (fun e => h2 j e.symm)]; exact h.kd hj⟩
def bIn (x a b : Int32) : Bool := decide (a ≤ x ∧ x ≤ b)
def mLv (v : Nat → Int32) (x : Int32) : Bool := bIn x 0 (v 1 - 1)
def mCr (v : Nat → Int32) (x : Int32) : Bool := bIn x 0 (v 3 - 1)
def oI (q : Option Nat) : Int32 := match q with
  | none => -6
  | some j => nI j
/-- the first aircraft below n that holds on that level -/
def mOn (v : Nat → Int32) (x : Int32) : Nat → Option Nat
  | 0 => none
  | a + 1 => match mOn v x a with
    | some j => some j
    | none => if v (14 + 7 * a + 2) = 0 ∧ v (14 + 7 * a + 3) = x then some a else none
theorem mOn_n {v : Nat → Int32} {x : Int32} {a : Nat} (h : mOn v x a = none) (h1 : ¬ (v (14 + 7 * a + 2) = 0 ∧ v (14 + 7 * a + 3) = x)) : mOn v x (a + 1) = none := by rw [mOn, h]; simp only; rw [if_neg h1]
theorem mOn_s {v : Nat → Int32} {x : Int32} {a : Nat} (h : mOn v x a = none) (h1 : v (14 + 7 * a + 2) = 0 ∧ v (14 + 7 * a + 3) = x) : mOn v x (a + 1) = some a := by rw [mOn, h]; simp only; rw [if_pos h1]
theorem mOn_le {v : Nat → Int32} {x : Int32} {a b j : Nat} (h : mOn v x a = some j) (hab : a ≤ b) : mOn v x b = some j := by
  obtain ⟨k, rfl⟩ := Nat.exists_eq_add_of_le hab
  clear hab
  induction k with
  | zero => exact h
  | succ k ih => rw [← Nat.add_assoc, mOn, ih]
theorem mOn_lt {v : Nat → Int32} {x : Int32} {a j : Nat} (h : mOn v x a = some j) : j < a ∧ v (14 + 7 * j + 2) = 0 ∧ v (14 + 7 * j + 3) = x := by
  induction a with
  | zero => cases h
  | succ a ih =>
    rw [mOn] at h
    cases hh : mOn v x a with
    | some i =>
      rw [hh] at h
      cases h
      have := ih hh
      exact ⟨by omega, this.2⟩
    | none =>
      rw [hh] at h
      simp only at h
      split at h
      · next hc => cases h; exact ⟨by omega, hc⟩
      · cases h
def mCnt (v : Nat → Int32) (x : Int32) : Nat → Int32
  | 0 => 0
  | a + 1 => if v (14 + 7 * a + 2) = x then mCnt v x a + 1 else mCnt v x a + 0
theorem mCnt_t {v : Nat → Int32} {x : Int32} {a : Nat} (h : v (14 + 7 * a + 2) = x) : mCnt v x (a + 1) = mCnt v x a + 1 := by rw [mCnt, if_pos h]
theorem mCnt_f {v : Nat → Int32} {x : Int32} {a : Nat} (h : ¬ v (14 + 7 * a + 2) = x) : mCnt v x (a + 1) = mCnt v x a + 0 := by rw [mCnt, if_neg h]
def mBurn (v : Nat → Int32) (a : Nat) (l : Int32) : Int32 := kRate (v (14 + 7 * a)) - kRate (v (14 + 7 * a)) * l / 40
def mSh (v : Nat → Int32) (a : Nat) : Bool := decide (v (14 + 7 * a + 1) ≤ kRes (v (14 + 7 * a)))
def mOv (v : Nat → Int32) (a : Nat) : Bool := decide (v (14 + 7 * a + 2) = 0 ∧ v (14 + 7 * a + 4) = 0)
def mLeave (v : Nat → Int32) (a : Nat) (x : Int32) : Nat → Int32 :=
  let g := upd (upd v (14 + 7 * a + 2) x) (14 + 7 * a + 6) (v 0)
  if x = 1 then upd g 11 (g 11 + g (14 + 7 * a + 1)) else upd g 12 (g 12 + g (14 + 7 * a + 1))
theorem mCr_n {v : Nat → Int32} {lv c j : Nat} (h : MW v lv c) (hj : j < c) : mCr v (nI j) = true := by
  have hc := h.c20
  unfold mCr bIn
  rw [h.ct]
  refine decide_eq_true ⟨?_, ?_⟩
  · rw [Int32.le_iff_toInt_le, nI_toInt (by omega)]; exact Int.natCast_nonneg j
  · rw [Int32.le_iff_toInt_le, nI_toInt (by omega), Int32.toInt_sub, nI_toInt (by omega)]
    have : (1 : Int32).toInt = 1 := by decide
    rw [this, Int.bmod_eq_of_le (by omega) (by omega)]
    omega
def mEw (v : Nat → Int32) (x fu y : Int32) : Int32 :=
  if bIn x 0 2 = false ∨ mLv v y = false then -1 else if bIn fu 1 9999 = false then -2 else if v 3 = 20 then -4 else 0
def mRf (v : Nat → Int32) (c : Nat) (x fu y : Int32) : Int32 :=
  if ¬ oI (mOn v y c) = -6 then 1 else if fu ≤ kRes x then 2 else if mCnt v 0 c < v 7 then 0 else 3
def mEn (v : Nat → Int32) (c : Nat) (x fu y : Int32) : Nat → Int32 :=
  upd (upd (upd (upd (upd (upd (upd (upd (upd (upd v (14 + 7 * c) x) (14 + 7 * c + 1) fu) (14 + 7 * c + 2) 0) (14 + 7 * c + 3) y) (14 + 7 * c + 4) 1) (14 + 7 * c + 5) 0) (14 + 7 * c + 6) 0) 3 (nI (c + 1))) 9 (v 9 + fu)) 13 0
theorem eT {v : Nat → Int32} {lv c : Nat} (hW : MW v lv c) {x1 x2 x3 x4 x5 x6 x7 : Int32} : upd (upd (upd (upd (upd (upd (upd v (14 + 7 * c) x1) (14 + 7 * c + 1) x2) (14 + 7 * c + 2) x3) (14 + 7 * c + 3) x4) (14 + 7 * c + 4) x5) (14 + 7 * c + 5) x6) (14 + 7 * c + 6) x7 3 = nI c := by
  repeat rw [upd_n (by omega)]
  exact hW.ct
theorem eT9 {v : Nat → Int32} {c : Nat} {x1 x2 x3 x4 x5 x6 x7 x8 : Int32} : upd (upd (upd (upd (upd (upd (upd (upd v (14 + 7 * c) x1) (14 + 7 * c + 1) x2) (14 + 7 * c + 2) x3) (14 + 7 * c + 3) x4) (14 + 7 * c + 4) x5) (14 + 7 * c + 5) x6) (14 + 7 * c + 6) x7) 3 x8 9 = v 9 := by
  repeat rw [upd_n (by omega)]
/-- what was recorded, one step back -/
def shf (p : Nat → Int32) (k : Nat) : Nat → Int32 := fun j => if j < k then p (j + 154) else p j
theorem shf_s {p : Nat → Int32} {k : Nat} : upd (shf p k) k (shf p k (k + 154)) = shf p (k + 1) := by
  funext j
  unfold upd shf
  by_cases h : j = k
  · subst h; rw [if_pos rfl, if_neg (by omega), if_pos (by omega)]
  · rw [if_neg h]
    by_cases h2 : j < k
    · rw [if_pos h2, if_pos (by omega)]
    · rw [if_neg h2, if_neg (by omega)]
/-- the first k numbers of v from b on -/
def cpy (p : Nat → Int32) (b : Nat) (v : Nat → Int32) (k : Nat) : Nat → Int32 := fun j => if b ≤ j ∧ j < b + k then v (j - b) else p j
theorem cpy_0 {p : Nat → Int32} {b : Nat} {v : Nat → Int32} : cpy p b v 0 = p := by
  funext j; unfold cpy; rw [if_neg (by omega)]
theorem cpy_s {p : Nat → Int32} {b : Nat} {v : Nat → Int32} {k : Nat} : upd (cpy p b v k) (b + k) (v k) = cpy p b v (k + 1) := by
  funext j
  unfold upd cpy
  by_cases h : j = b + k
  · subst h; rw [if_pos rfl, if_pos (by omega), show b + k - b = k by omega]
  · rw [if_neg h]
    by_cases h2 : b ≤ j ∧ j < b + k
    · rw [if_pos h2, if_pos (by omega)]
    · rw [if_neg h2, if_neg (by omega)]
theorem shf_0 {p : Nat → Int32} : shf p 0 = p := by funext j; unfold shf; rw [if_neg (by omega)]
theorem mEw_ok {v : Nat → Int32} {x fu y : Int32} (h : ¬ mEw v x fu y < 0) : bIn x 0 2 = true ∧ mLv v y = true ∧ bIn fu 1 9999 = true ∧ ¬ v 3 = 20 := by
  unfold mEw at h
  split at h
  · exact absurd (by decide) h
  · next h1 =>
    split at h
    · exact absurd (by decide) h
    · next h2 =>
      split at h
      · exact absurd (by decide) h
      · next h3 =>
        refine ⟨?_, ?_, ?_, h3⟩
        · cases hh : bIn x 0 2 with
          | true => rfl
          | false => exact absurd (Or.inl hh) h1
        · cases hh : mLv v y with
          | true => rfl
          | false => exact absurd (Or.inr hh) h1
        · cases hh : bIn fu 1 9999 with
          | true => rfl
          | false => exact absurd hh h2
theorem bIn_hk {x : Int32} (h : bIn x 0 2 = true) : hk x := by
  have h := of_decide_eq_true h
  have h1 := Int32.le_iff_toInt_le.mp h.1
  have h2 := Int32.le_iff_toInt_le.mp h.2
  have e0 : (0 : Int32).toInt = 0 := by decide
  have e1 : (1 : Int32).toInt = 1 := by decide
  have e2 : (2 : Int32).toInt = 2 := by decide
  rcases (show x.toInt = 0 ∨ x.toInt = 1 ∨ x.toInt = 2 by omega) with e | e | e
  · exact Or.inl (Int32.toInt_inj.mp (e.trans e0.symm))
  · exact Or.inr (Or.inl (Int32.toInt_inj.mp (e.trans e1.symm)))
  · exact Or.inr (Or.inr (Int32.toInt_inj.mp (e.trans e2.symm)))
def mCw (v : Nat → Int32) (j : Nat) : Int32 := if ¬ v (14 + 7 * j + 2) = 0 ∨ v (14 + 7 * j + 3) = 0 ∨ v (14 + 7 * j + 5) = 1 then -3 else 0
/-! the model: begin, lap, limit, switches, minutes -/
def zro (f : Nat → Int32) (k : Nat) : Nat → Int32 := fun j => if 8 ≤ j ∧ j < k then 0 else f j
theorem zro_0 {f : Nat → Int32} : zro f 8 = f := by funext j; unfold zro; rw [if_neg (by omega)]
theorem zro_s {f : Nat → Int32} {k : Nat} (h : 8 ≤ k) : upd (zro f k) k 0 = zro f (k + 1) := by
  funext j
  unfold upd zro
  by_cases h1 : j = k
  · subst h1; rw [if_pos rfl, if_pos (by omega)]
  · rw [if_neg h1]
    by_cases h2 : 8 ≤ j ∧ j < k
    · rw [if_pos h2, if_pos (by omega)]
    · rw [if_neg h2, if_neg (by omega)]
def mBg (v : Nat → Int32) (x : Int32) : Nat → Int32 := upd (zro (upd (upd (upd v 0 0) 3 0) 4 0) 154) 1 x
def mLp (v : Nat → Int32) (x : Int32) : Nat → Nat → Int32
  | 0 => v
  | a + 1 => upd (mLp v x a) (14 + 7 * a + 4) (if mLp v x a (14 + 7 * a + 4) < x then mLp v x a (14 + 7 * a + 4) else 0)
theorem MW.lp {v : Nat → Int32} {lv c : Nat} (h : MW v lv c) (x : Int32) (a : Nat) : MW (mLp v x a) lv c := by
  induction a with
  | zero => exact h
  | succ a ih => exact ih.up (by omega) (by omega)
theorem mLp_lo {v : Nat → Int32} {x : Int32} {k : Nat} (h : k < 14) (a : Nat) : mLp v x a k = v k := by
  induction a with
  | zero => rfl
  | succ a ih => rw [mLp, upd_n (by omega), ih]
def mB1 (v : Nat → Int32) (a : Nat) : Nat → Int32 :=
  if v (14 + 7 * a + 2) = 0 then
    let b := if mBurn v a (v (14 + 7 * a + 3)) < v (14 + 7 * a + 1) then mBurn v a (v (14 + 7 * a + 3)) else v (14 + 7 * a + 1)
    let g := upd v (14 + 7 * a + 1) (v (14 + 7 * a + 1) - b)
    let g2 := upd g 10 (g 10 + b)
    upd g2 (14 + 7 * a + 4) (if g2 (14 + 7 * a + 4) + 1 = g2 2 then 0 else g2 (14 + 7 * a + 4) + 1)
  else v
def mBs (v : Nat → Int32) : Nat → Nat → Int32
  | 0 => v
  | a + 1 => mB1 (mBs v a) a
theorem MW.b1 {v : Nat → Int32} {lv c : Nat} (h : MW v lv c) (a : Nat) : MW (mB1 v a) lv c := by
  unfold mB1
  split
  · exact ((h.up (by omega) (by omega)).up (by omega) (by omega)).up (by omega) (by omega)
  · exact h
theorem MW.bs {v : Nat → Int32} {lv c : Nat} (h : MW v lv c) (a : Nat) : MW (mBs v a) lv c := by
  induction a with
  | zero => exact h
  | succ a ih => exact ih.b1 a
theorem MW.leave {v : Nat → Int32} {lv c : Nat} (h : MW v lv c) (a : Nat) (x : Int32) : MW (mLeave v a x) lv c := by
  unfold mLeave
  simp only
  split
  · exact ((h.up (by omega) (by omega)).up (by omega) (by omega)).up (by omega) (by omega)
  · exact ((h.up (by omega) (by omega)).up (by omega) (by omega)).up (by omega) (by omega)
def mD1 (v : Nat → Int32) (a : Nat) : Nat → Int32 :=
  if v (14 + 7 * a + 2) = 0 ∧ 2 * v (14 + 7 * a + 1) < kRes (v (14 + 7 * a)) then mLeave v a 2 else v
def mDs (v : Nat → Int32) : Nat → Nat → Int32
  | 0 => v
  | a + 1 => mD1 (mDs v a) a
theorem MW.ds {v : Nat → Int32} {lv c : Nat} (h : MW v lv c) (a : Nat) : MW (mDs v a) lv c := by
  induction a with
  | zero => exact h
  | succ a ih =>
    rw [mDs, mD1]
    split
    · exact ih.leave a 2
    · exact ih
def mBu (v : Nat → Int32) (c : Nat) : Nat → Int32 := mDs (mBs v c) c
theorem MW.bu {v : Nat → Int32} {lv c : Nat} (h : MW v lv c) : MW (mBu v c) lv c := (h.bs c).ds c
/-! the model: who lands, a minute, minutes -/
def mFar (v : Nat → Int32) (a : Nat) (q : Option Nat) : Bool := match q with
  | none => true
  | some j => decide (v (14 + 7 * a + 1) - v (14 + 7 * j + 1) < 0 ∨ (v (14 + 7 * a + 1) - v (14 + 7 * j + 1) = 0 ∧ v (14 + 7 * a + 3) < v (14 + 7 * j + 3)))
/-- the best below n: short aircraft over the runway -/
def mLb (v : Nat → Int32) : Nat → Option Nat
  | 0 => none
  | a + 1 => if mOv v a = true ∧ mSh v a = true ∧ mFar v a (mLb v a) = true then some a else mLb v a
theorem mLb_t {v : Nat → Int32} {a : Nat} (h : mOv v a = true ∧ mSh v a = true ∧ mFar v a (mLb v a) = true) : mLb v (a + 1) = some a := by rw [mLb, if_pos h]
theorem mLb_f {v : Nat → Int32} {a : Nat} (h : ¬ (mOv v a = true ∧ mSh v a = true ∧ mFar v a (mLb v a) = true)) : mLb v (a + 1) = mLb v a := by rw [mLb, if_neg h]
theorem mLb_lt {v : Nat → Int32} {a j : Nat} (h : mLb v a = some j) : j < a := by
  induction a with
  | zero => cases h
  | succ a ih =>
    rw [mLb] at h
    split at h
    · cases h; exact Nat.lt_succ_self _
    · have := ih h; omega
def mLd (v : Nat → Int32) (c : Nat) : Option Nat := match mLb v c with
  | some j => some j
  | none => match mOn v 0 c with
    | some j => if mOv v j = true then some j else none
    | none => none
theorem oI_n0 {q : Option Nat} (h : oI q < 0) (hq : ∀ j, q = some j → j < 20) : q = none := by
  cases q with
  | none => rfl
  | some j =>
    have := hq j rfl
    refine absurd h (Int32.not_lt.mpr ?_)
    show (0 : Int32) ≤ nI j
    rw [Int32.le_iff_toInt_le, nI_toInt (by omega)]
    exact Int.natCast_nonneg j
theorem oI_s0 {q : Option Nat} (h : ¬ oI q < 0) : ∃ j, q = some j := by
  cases q with
  | none => exact absurd (by decide) h
  | some j => exact ⟨j, rfl⟩
theorem oI_6 {q : Option Nat} (h : oI q = -6) (hq : ∀ j, q = some j → j < 20) : q = none := by
  cases q with
  | none => rfl
  | some j =>
    have := hq j rfl
    have h := congrArg Int32.toInt h
    rw [show oI (some j) = nI j from rfl, nI_toInt (by omega)] at h
    exact absurd h (by have : ((-6 : Int32)).toInt = -6 := by decide
                       omega)
theorem nI_n0 {j : Nat} (h : j < 20) : ¬ nI j < 0 := by
  intro hh
  have := oI_n0 (q := some j) hh (fun i e => by cases e; exact h)
  cases this
/-! the model: a minute -/
theorem mLd_lt {v : Nat → Int32} {c j : Nat} (h : mLd v c = some j) : j < c := by
  unfold mLd at h
  cases hb : mLb v c with
  | some i => rw [hb] at h; cases h; exact mLb_lt hb
  | none =>
    rw [hb] at h
    simp only at h
    cases hl : mOn v 0 c with
    | none => rw [hl] at h; cases h
    | some i =>
      rw [hl] at h
      simp only at h
      split at h
      · cases h; exact (mOn_lt hl).1
      · cases h
def mW1 (v : Nat → Int32) : Nat → Int32 := upd v 4 (v 4 - (if 0 < v 4 then 1 else 0))
def mPq (v : Nat → Int32) (c : Nat) : Option Nat := if v 5 = 1 ∧ v 4 = 0 then mLd v c else none
def mV3 (v : Nat → Int32) (q : Option Nat) : Nat → Int32 := match q with
  | some j => upd (mLeave v j 1) 4 (kWake (mLeave v j 1 (14 + 7 * j)))
  | none => v
def mK1 (v : Nat → Int32) (c i : Nat) : Nat → Int32 := match mOn v (nI (i + 1)) c with
  | some b => if mOv v b = true ∧ mOn v (nI i) c = none ∧ (v 6 = 1 ∨ v (14 + 7 * b + 5) = 1) then
      (let g := upd (upd v (14 + 7 * b + 3) (nI i)) (14 + 7 * b + 5) 0
       upd g 8 (g 8 + 1)) else v
  | none => v
def mKs (v : Nat → Int32) (c : Nat) : Nat → Nat → Int32
  | 0 => v
  | i + 1 => mK1 (mKs v c i) c i
theorem MW.k1 {v : Nat → Int32} {lv c : Nat} (h : MW v lv c) (i : Nat) : MW (mK1 v c i) lv c := by
  unfold mK1
  split
  · split
    · exact ((h.up (by omega) (by omega)).up (by omega) (by omega)).up (by omega) (by omega)
    · exact h
  · exact h
theorem MW.ks {v : Nat → Int32} {lv c : Nat} (h : MW v lv c) (i : Nat) : MW (mKs v c i) lv c := by
  induction i with
  | zero => exact h
  | succ i ih => exact ih.k1 i
theorem MW.w1 {v : Nat → Int32} {lv c : Nat} (h : MW v lv c) : MW (mW1 v) lv c := h.up (by omega) (by omega)
theorem MW.v3 {v : Nat → Int32} {lv c : Nat} (h : MW v lv c) (q : Option Nat) : MW (mV3 v q) lv c := by
  unfold mV3
  split
  · exact (h.leave _ _).up (by omega) (by omega)
  · exact h
def mB2 (v : Nat → Int32) (c : Nat) : Nat → Int32 := mW1 (mBu v c)
def mPa (v : Nat → Int32) (c : Nat) : Option Nat := mPq (mB2 v c) c
def mPs (v : Nat → Int32) (lv c : Nat) : Nat → Int32 :=
  let g := mKs (mV3 (mB2 v c) (mPa v c)) c (lv - 1)
  upd g 0 (g 0 + 1)
theorem MW.b2 {v : Nat → Int32} {lv c : Nat} (h : MW v lv c) : MW (mB2 v c) lv c := h.bu.w1
theorem MW.ps {v : Nat → Int32} {lv c : Nat} (h : MW v lv c) : MW (mPs v lv c) lv c := ((h.b2.v3 _).ks _).up (by omega) (by omega)
theorem mPa_lt {v : Nat → Int32} {c j : Nat} (h : mPa v c = some j) : j < c := by
  unfold mPa mPq at h
  split at h
  · exact mLd_lt h
  · cases h
/-! the model: minutes, what is told, why -/
def mGo (v : Nat → Int32) (lv c : Nat) : Nat → Nat → Int32
  | 0 => v
  | k + 1 => mPs (mGo v lv c k) lv c
theorem MW.go {v : Nat → Int32} {lv c : Nat} (h : MW v lv c) (k : Nat) : MW (mGo v lv c k) lv c := by
  induction k with
  | zero => exact h
  | succ k ih => exact ih.ps
def oB (q : Option Nat) : Int32 := match q with
  | some _ => 1
  | none => 0
def mGc (v : Nat → Int32) (lv c : Nat) : Nat → Int32
  | 0 => 0
  | k + 1 => mGc v lv c k + oB (mPa (mGo v lv c k) c)
def mLe (v : Nat → Int32) (c : Nat) (x : Int32) : Int32 := if mLv v x = true then oI (mOn v x c) else -1
def mCt (v : Nat → Int32) (j w : Nat) : Int32 := if w < 3 then v (14 + 7 * j + w) else if w = 6 then b2 (mSh v j) else
  if w = 7 then (if v (14 + 7 * j + 2) = 0 then -6 else v (14 + 7 * j + 6)) else if v (14 + 7 * j + 2) = 0 then v (14 + 7 * j + w) else -6
def mTl (v : Nat → Int32) (q c w : Nat) : Int32 := if w < 4 then v w else if w < 7 then mCnt v (nI w - 4) c else if w = 7 then v 8 else if w < 12 then v (w - 4) else if w < 17 then v (w - 3) else nI q
def mWy (v : Nat → Int32) (c j : Nat) : Int32 :=
  if ¬ v (14 + 7 * j + 2) = 0 then 1 else if mOv v j = false then 2 else
  if v (14 + 7 * j + 3) = 0 ∨ mSh v j = true then (if v 5 = 0 ∨ 0 < v 4 then 3 else 0) else
  if ¬ oI (mOn v (v (14 + 7 * j + 3) - 1) c) = -6 then 4 else if v (14 + 7 * j + 5) = 0 ∧ v 6 = 0 then 5 else 0
/-! the model: forecasts -/
theorem cpy_s0 {p : Nat → Int32} {v : Nat → Int32} {k : Nat} : upd (cpy p 0 v k) k (v k) = cpy p 0 v (k + 1) := by
  have h := cpy_s (p := p) (b := 0) (v := v) (k := k)
  rwa [Nat.zero_add] at h
theorem cpy_back {w p v : Nat → Int32} (h : ∀ j, 154 ≤ j → w j = v j) : cpy w 0 (cpy p 0 v 154) 154 = v := by
  funext j
  unfold cpy
  by_cases h1 : j < 154
  · rw [if_pos (by omega), if_pos (by omega)]; rfl
  · rw [if_neg (by omega)]; exact h j (by omega)
/-- beyond the row nothing changes -/
def hEq (w v : Nat → Int32) : Prop := ∀ j, 154 ≤ j → w j = v j
theorem hEq.up {w v : Nat → Int32} {k : Nat} {x : Int32} (h : hEq w v) (hk : k < 154) : hEq (upd w k x) v := fun j hj => (upd_n (by omega)).trans (h j hj)
theorem hEq.leave {w v : Nat → Int32} {a : Nat} {x : Int32} (h : hEq w v) (ha : a < 20) : hEq (mLeave w a x) v := by
  unfold mLeave
  simp only
  split
  · exact ((h.up (by omega)).up (by omega)).up (by omega)
  · exact ((h.up (by omega)).up (by omega)).up (by omega)
theorem hEq.bs {w v : Nat → Int32} (h : hEq w v) {a : Nat} (ha : a ≤ 20) : hEq (mBs w a) v := by
  induction a with
  | zero => exact h
  | succ a ih =>
    rw [mBs, mB1]
    split
    · exact (((ih (by omega)).up (by omega)).up (by omega)).up (by omega)
    · exact ih (by omega)
theorem hEq.ds {w v : Nat → Int32} (h : hEq w v) {a : Nat} (ha : a ≤ 20) : hEq (mDs w a) v := by
  induction a with
  | zero => exact h
  | succ a ih =>
    rw [mDs, mD1]
    split
    · exact (ih (by omega)).leave (by omega)
    · exact ih (by omega)
theorem hEq.ks {w v : Nat → Int32} (h : hEq w v) {c : Nat} (hc : c ≤ 20) (i : Nat) : hEq (mKs w c i) v := by
  induction i with
  | zero => exact h
  | succ i ih =>
    rw [mKs, mK1]
    split
    · next b hb =>
      have := (mOn_lt hb).1
      split
      · exact ((ih.up (by omega)).up (by omega)).up (by omega)
      · exact ih
    · exact ih
theorem hEq.ps {w v : Nat → Int32} {lv c : Nat} (h : hEq w v) (hc : c ≤ 20) : hEq (mPs w lv c) v := by
  have h2 : hEq (mB2 w c) v := ((h.bs hc).ds hc).up (by decide)
  have h3 : hEq (mV3 (mB2 w c) (mPa w c)) v := by
    unfold mV3
    split
    · next j hj => exact (h2.leave (by have := mPa_lt hj; omega)).up (by decide)
    · exact h2
  exact (h3.ks hc _).up (by decide)
theorem hEq.go {w v : Nat → Int32} {lv c : Nat} (h : hEq w v) (hc : c ≤ 20) (k : Nat) : hEq (mGo w lv c k) v := by
  induction k with
  | zero => exact h
  | succ k ih => exact ih.ps hc
theorem hEq.en {w v : Nat → Int32} {c : Nat} {x fu y : Int32} (h : hEq w v) (hc : c < 20) : hEq (mEn w c x fu y) v :=
  (((((((((h.up (by omega)).up (by omega)).up (by omega)).up (by omega)).up (by omega)).up (by omega)).up (by omega)).up (by omega)).up (by omega)).up (by omega)
theorem MW.en {v : Nat → Int32} {lv c : Nat} {x fu y : Int32} (h : MW v lv c) (hc : c < 20) (hx : hk x) : MW (mEn v c x fu y) lv (c + 1) := by
  refine ⟨⟨?_, h.l16⟩, ⟨?_, hc⟩, fun j hj => ?_⟩
  · unfold mEn; repeat rw [upd_n (by omega)]
    exact h.lv
  · unfold mEn; rw [upd_n (by omega), upd_n (by omega), upd_s]
  · unfold mEn; rw [upd_n (by omega), upd_n (by omega), upd_n (by omega), upd_n (by omega), upd_n (by omega), upd_n (by omega), upd_n (by omega), upd_n (by omega), upd_n (by omega)]
    by_cases e : j = c
    · subst e; rw [upd_s]; exact hx
    · rw [upd_n (by omega)]; exact h.kd (by omega)
/-- how many minutes pass until that aircraft does not hold -/
def mLN (v : Nat → Int32) (lv c j : Nat) : Nat → Nat → Nat
  | 0, n => n
  | f + 1, n => if mGo v lv c n (14 + 7 * j + 2) = 0 then mLN v lv c j f (n + 1) else n
theorem mLN_le {v : Nat → Int32} {lv c j : Nat} (f n : Nat) : mLN v lv c j f n ≤ n + f := by
  induction f generalizing n with
  | zero => exact Nat.le_refl _
  | succ f ih =>
    rw [mLN]
    split
    · have := ih (n + 1); omega
    · omega
def mLm (v : Nat → Int32) (lv c j : Nat) : Int32 := if mGo v lv c (mLN v lv c j 600 0) (14 + 7 * j + 2) = 1 then nI (mLN v lv c j 600 0) else -6
def mLf (v : Nat → Int32) (lv c j : Nat) : Int32 := if mGo v lv c (mLN v lv c j 600 0) (14 + 7 * j + 2) = 1 then mGo v lv c (mLN v lv c j 600 0) (14 + 7 * j + 1) else -6
theorem hEq.rfl' {v : Nat → Int32} : hEq v v := fun _ _ => rfl
def mEu (v : Nat → Int32) (j : Nat) : Int32 := if ¬ v (14 + 7 * j + 2) = 0 then -3 else
  if v (14 + 7 * j + 1) - kRes (v (14 + 7 * j)) ≤ 0 then 0 else (v (14 + 7 * j + 1) - kRes (v (14 + 7 * j)) + mBurn v j (v (14 + 7 * j + 3)) - 1) / mBurn v j (v (14 + 7 * j + 3))
def mLx (v : Nat → Int32) (lv c : Nat) : Nat → Nat → Int32 → Option Nat
  | 0, _, _ => none
  | f + 1, n, l => match mPa (mGo v lv c n) c with
    | some a => if l = 0 then some a else mLx v lv c f (n + 1) (l - 1)
    | none => mLx v lv c f (n + 1) (l - 0)
theorem mLx_lt {v : Nat → Int32} {lv c f n j : Nat} {l : Int32} (h : mLx v lv c f n l = some j) : j < c := by
  induction f generalizing n l with
  | zero => cases h
  | succ f ih =>
    rw [mLx] at h
    split at h
    · next a ha =>
      split at h
      · cases h; exact mPa_lt ha
      · exact ih h
    · exact ih h
/-! the model: the best level; history and slots -/
def mBw (v : Nat → Int32) (x fu : Int32) : Int32 := if bIn x 0 2 = false then -1 else if bIn fu 1 9999 = false then -2 else if v 3 = 20 then -4 else 0
/-- the step at level k: what is best, and its minutes -/
def mBm (v : Nat → Int32) (lv c : Nat) (x fu : Int32) (k : Nat) : Int32 := mLm (mEn v c x fu (nI k)) lv (c + 1) c
def mBe (v : Nat → Int32) (lv c : Nat) (x fu : Int32) : Nat → Option Nat × Int32
  | 0 => (none, 0)
  | k + 1 => if mRf v c x fu (nI k) = 0 ∧ 0 ≤ mBm v lv c x fu k ∧ ((mBe v lv c x fu k).1 = none ∨ mBm v lv c x fu k < (mBe v lv c x fu k).2)
      then (some k, mBm v lv c x fu k) else mBe v lv c x fu k
theorem mBe_t {v : Nat → Int32} {lv c : Nat} {x fu : Int32} {k : Nat} (h : mRf v c x fu (nI k) = 0 ∧ 0 ≤ mBm v lv c x fu k ∧ ((mBe v lv c x fu k).1 = none ∨ mBm v lv c x fu k < (mBe v lv c x fu k).2)) : mBe v lv c x fu (k + 1) = (some k, mBm v lv c x fu k) := by rw [mBe, if_pos h]
theorem mBe_f {v : Nat → Int32} {lv c : Nat} {x fu : Int32} {k : Nat} (h : ¬ (mRf v c x fu (nI k) = 0 ∧ 0 ≤ mBm v lv c x fu k ∧ ((mBe v lv c x fu k).1 = none ∨ mBm v lv c x fu k < (mBe v lv c x fu k).2))) : mBe v lv c x fu (k + 1) = mBe v lv c x fu k := by rw [mBe, if_neg h]
theorem mBe_lt {v : Nat → Int32} {lv c : Nat} {x fu : Int32} {k j : Nat} (h : (mBe v lv c x fu k).1 = some j) : j < k := by
  induction k with
  | zero => cases h
  | succ k ih =>
    rw [mBe] at h
    split at h
    · cases h; exact Nat.lt_succ_self _
    · have := ih h; omega
theorem mBw_ok {v : Nat → Int32} {x fu : Int32} (h : mBw v x fu = 0) : bIn x 0 2 = true ∧ bIn fu 1 9999 = true ∧ ¬ v 3 = 20 := by
  unfold mBw at h
  split at h
  · exact absurd h (by decide)
  · next h1 =>
    split at h
    · exact absurd h (by decide)
    · next h2 =>
      split at h
      · exact absurd h (by decide)
      · next h3 => exact ⟨(Bool.not_eq_false _).mp h1, (Bool.not_eq_false _).mp h2, h3⟩
theorem cpy_v {p s : Nat → Int32} {k : Nat} : upd (cpy p 0 s k) k (s k) = cpy p 0 s (k + 1) := cpy_s0
/-! the model: the text -/
theorem up2_comm {M : hMem} {a k b j : Nat} {x y : Int32} (h : ¬ (a = b ∧ k = j)) : up2 (up2 M a k x) b j y = up2 (up2 M b j y) a k x := by
  funext i q
  simp only [up2]
  by_cases h1 : i = b ∧ q = j
  · rw [if_pos h1, if_pos h1, if_neg (by omega)]
  · rw [if_neg h1, if_neg h1]
theorem b2_1 {e : Bool} (h : ¬ b2 e = 0) : e = true := by
  cases e
  · exact absurd rfl h
  · rfl
/-- the character at place p, or -1 -/
def mHe (s : Nat → Int32) (L p : Nat) : Int32 := if p < L then s p else -1
def bN (b : Bool) : Nat := match b with
  | true => 1
  | false => 0
def mTk (s : Nat → Int32) (L p : Nat) (x : Int32) : Bool := decide (mHe s L p = x)
def mDg (s : Nat → Int32) (L p : Nat) : Int32 := if bIn (mHe s L p) 48 57 = true then mHe s L p - 48 else -1
def mNl (s : Nat → Int32) (L : Nat) : Nat → Nat → Int32 → Int32 × Nat
  | 0, p, x => (x, p)
  | f + 1, p, x => if mDg s L p < 0 then (x, p) else mNl s L f (p + 1) (10 * x + mDg s L p)
/-- the number at place p and the place behind it -/
def mNu (s : Nat → Int32) (L p : Nat) : Option (Int32 × Nat) := if mDg s L p < 0 then none else if mDg s L p = 0 then some (mDg s L p, p + 1) else some (mNl s L 3 (p + 1) (mDg s L p))
def mIs (s : Nat → Int32) (L p : Nat) (a b : Int32) : Bool := match mNu s L p with
  | none => false
  | some q => bIn q.1 a b
def mIt (s : Nat → Int32) (L p : Nat) (t : Nat → Int32) (k : Nat) : Nat → Int32 := match mNu s L p with
  | none => t
  | some q => upd t k q.1
def mIp (s : Nat → Int32) (L p : Nat) (a b : Int32) : Nat := match mNu s L p with
  | none => p
  | some q => if bIn q.1 a b = true then q.2 else p
theorem mHe_p {s : Nat → Int32} {L p : Nat} (h : ¬ mHe s L p = -1) : p < L := by
  unfold mHe at h
  by_cases h1 : p < L
  · exact h1
  · rw [if_neg h1] at h; exact absurd rfl h
theorem mDg_p {s : Nat → Int32} {L p : Nat} (h : ¬ mDg s L p < 0) : p < L := by
  unfold mDg at h
  split at h
  · next h1 => exact mHe_p (fun e => by rw [e] at h1; exact absurd h1 (by decide))
  · exact absurd (by decide) h
theorem mNl_p {s : Nat → Int32} {L f p : Nat} {x : Int32} (hp : p ≤ L) : p ≤ (mNl s L f p x).2 ∧ (mNl s L f p x).2 ≤ L := by
  induction f generalizing p x with
  | zero => exact ⟨Nat.le_refl _, hp⟩
  | succ f ih =>
    rw [mNl]
    split
    · exact ⟨Nat.le_refl _, hp⟩
    · next h1 =>
      have := mDg_p h1
      have := ih (p := p + 1) (x := 10 * x + mDg s L p) (by omega)
      exact ⟨by omega, this.2⟩
theorem mNu_p {s : Nat → Int32} {L p : Nat} {q : Int32 × Nat} (h : mNu s L p = some q) : p < q.2 ∧ q.2 ≤ L := by
  unfold mNu at h
  split at h
  · cases h
  · next h1 =>
    have hp := mDg_p h1
    split at h
    · cases h; exact ⟨Nat.lt_succ_self _, hp⟩
    · cases h
      have := mNl_p (s := s) (L := L) (f := 3) (p := p + 1) (x := mDg s L p) hp
      exact ⟨by omega, this.2⟩
theorem mIp_p {s : Nat → Int32} {L p : Nat} {a b : Int32} (hp : p ≤ L) : p ≤ mIp s L p a b ∧ mIp s L p a b ≤ L ∧ (mIs s L p a b = true → p < mIp s L p a b) := by
  unfold mIp mIs
  cases h : mNu s L p with
  | none => exact ⟨Nat.le_refl _, hp, fun e => by cases e⟩
  | some q =>
    have := mNu_p h
    simp only
    split
    · exact ⟨by omega, this.2, fun _ => this.1⟩
    · next h1 => exact ⟨Nat.le_refl _, hp, fun e => absurd e h1⟩
/-! the model: strips and texts -/
theorem bqf {b : Bool} (h : b = false) : ¬ b = true := by rw [h]; decide
theorem bqt {b : Bool} (h : b = true) : ¬ b = false := by rw [h]; decide
def mKd (s : Nat → Int32) (L p : Nat) : Int32 := if mHe s L p = 108 then 0 else if mHe s L p = 109 then 1 else if mHe s L p = 104 then 2 else -6
/-- a strip from place p on: whether it is one, and the place behind -/
def mSb (s : Nat → Int32) (L p : Nat) : Bool × Nat :=
  if mTk s L p 43 = true then
    (if mKd s L (p + 1) = -6 then (false, p + 1)
     else if mIs s L (p + 2) 1 9999 = false then (false, mIp s L (p + 2) 1 9999)
     else if mTk s L (mIp s L (p + 2) 1 9999) 64 = false then (false, mIp s L (p + 2) 1 9999)
     else (mIs s L (mIp s L (p + 2) 1 9999 + 1) 0 15, mIp s L (mIp s L (p + 2) 1 9999 + 1) 0 15))
  else if mTk s L p 99 = true then (mIs s L (p + 1) 0 19, mIp s L (p + 1) 0 19)
  else if mTk s L p 116 = true then (mIs s L (p + 1) 1 99, mIp s L (p + 1) 1 99)
  else if mTk s L p 111 = true then (true, p + 1)
  else (mTk s L p 120, p + bN (mTk s L p 120))
/-- what the model told itself of it -/
def mSk (s : Nat → Int32) (L : Nat) (t : Nat → Int32) (p : Nat) : Nat → Int32 :=
  if mTk s L p 43 = true then
    (if mKd s L (p + 1) = -6 then upd (upd t 0 0) 1 (mKd s L (p + 1))
     else if mIs s L (p + 2) 1 9999 = false then mIt s L (p + 2) (upd (upd t 0 0) 1 (mKd s L (p + 1))) 2
     else if mTk s L (mIp s L (p + 2) 1 9999) 64 = false then mIt s L (p + 2) (upd (upd t 0 0) 1 (mKd s L (p + 1))) 2
     else mIt s L (mIp s L (p + 2) 1 9999 + 1) (mIt s L (p + 2) (upd (upd t 0 0) 1 (mKd s L (p + 1))) 2) 3)
  else if mTk s L p 99 = true then mIt s L (p + 1) (upd t 0 1) 1
  else if mTk s L p 116 = true then mIt s L (p + 1) (upd t 0 2) 1
  else upd (upd t 0 3) 1 (if mHe s L p = 111 then 1 else 0)
theorem mTk_p {s : Nat → Int32} {L p : Nat} {x : Int32} (hx : ¬ x = -1) (h : mTk s L p x = true) : p < L :=
  mHe_p (fun e => hx ((of_decide_eq_true h).symm.trans e))
theorem mKd_p {s : Nat → Int32} {L p : Nat} (h : ¬ mKd s L p = -6) : p < L := by
  refine mHe_p (s := s) (fun e => h ?_)
  unfold mKd
  rw [e, if_neg (by decide), if_neg (by decide), if_neg (by decide)]
theorem mSb_p {s : Nat → Int32} {L p : Nat} (hp : p ≤ L) : p ≤ (mSb s L p).2 ∧ (mSb s L p).2 ≤ L ∧ ((mSb s L p).1 = true → p < (mSb s L p).2) := by
  unfold mSb
  split
  · next h => 
    have h := mTk_p (by decide) h
    split
    · exact ⟨by simp, h, fun e => by cases e⟩
    · next h1 =>
      have h1 := mKd_p h1
      have h2 := mIp_p (s := s) (L := L) (p := p + 2) (a := 1) (b := 9999) (by omega)
      split
      · exact ⟨by simp only; omega, h2.2.1, fun e => by cases e⟩
      · split
        · exact ⟨by simp only; omega, h2.2.1, fun e => by cases e⟩
        · next h3 h4 =>
          have h4 := mTk_p (by decide) ((Bool.not_eq_false _).mp h4)
          have h5 := mIp_p (s := s) (L := L) (p := mIp s L (p + 2) 1 9999 + 1) (a := 0) (b := 15) (by omega)
          exact ⟨by simp only; omega, h5.2.1, fun e => by have := h5.2.2 e; simp only; omega⟩
  · split
    · next h =>
      have h := mTk_p (by decide) h
      have h5 := mIp_p (s := s) (L := L) (p := p + 1) (a := 0) (b := 19) (by omega)
      exact ⟨by simp only; omega, h5.2.1, fun e => by simp only; omega⟩
    · split
      · next h =>
        have h := mTk_p (by decide) h
        have h5 := mIp_p (s := s) (L := L) (p := p + 1) (a := 1) (b := 99) (by omega)
        exact ⟨by simp only; omega, h5.2.1, fun e => by simp only; omega⟩
      · split
        · next h =>
          have h := mTk_p (by decide) h
          exact ⟨by simp only; omega, h, fun e => by simp only; omega⟩
        · cases h : mTk s L p 120 with
          | false => exact ⟨by simp [bN], hp, fun e => by cases e⟩
          | true =>
            have h := mTk_p (by decide) h
            exact ⟨by simp [bN], h, fun e => by simp [bN]⟩
theorem mTk_bp {s : Nat → Int32} {L p : Nat} {x : Int32} (hx : ¬ x = -1) (hp : p ≤ L) : p + bN (mTk s L p x) ≤ L := by
  cases h : mTk s L p x with
  | false => exact hp
  | true => exact mTk_p hx h
/-! the model: texts read and run -/
def mTx (s : Nat → Int32) (L : Nat) : Nat → Nat → Bool × Nat
  | 0, p => (true, p)
  | f + 1, p => if L ≤ p then (true, p) else if (mSb s L p).1 = false then (false, (mSb s L p).2) else
      if mTk s L (mSb s L p).2 59 = false then (false, (mSb s L p).2) else mTx s L f ((mSb s L p).2 + 1)
def mTT (s : Nat → Int32) (L : Nat) : Nat → (Nat → Int32) → Nat → Nat → Int32
  | 0, t, _ => t
  | f + 1, t, p => if L ≤ p then t else if (mSb s L p).1 = false then mSk s L t p else
      if mTk s L (mSb s L p).2 59 = false then mSk s L t p else mTT s L f (mSk s L t p) ((mSb s L p).2 + 1)
theorem mTx_p {s : Nat → Int32} {L f p : Nat} (hp : p ≤ L) : (mTx s L f p).2 ≤ L := by
  induction f generalizing p with
  | zero => exact hp
  | succ f ih =>
    rw [mTx]
    split
    · exact hp
    · split
      · exact (mSb_p hp).2.1
      · split
        · exact (mSb_p hp).2.1
        · next h1 h2 h3 => exact ih (mTk_p (by decide) ((Bool.not_eq_false _).mp h3))
/-! the model: strips carried out, the checksum -/
def mCo (v : Nat → Int32) (lv c : Nat) (t : Nat → Int32) : Bool × (Nat → Int32) × Nat :=
  if t 0 = 0 then (if mEw v (t 1) (t 2) (t 3) < 0 then (false, v, c) else if 0 < mRf v c (t 1) (t 2) (t 3) then (false, upd v 13 (mRf v c (t 1) (t 2) (t 3)), c)
    else (true, mEn (upd v 13 (mRf v c (t 1) (t 2) (t 3))) c (t 1) (t 2) (t 3), c + 1))
  else if t 0 = 1 then (if mCr v (t 1) = true then (if mCw v (t 1).toNatClampNeg < 0 then (false, v, c) else (true, upd v (14 + 7 * (t 1).toNatClampNeg + 5) 1, c)) else (false, v, c))
  else if t 0 = 2 then (true, mGo v lv c (t 1).toNatClampNeg, c)
  else (true, upd v 5 (if t 1 = 1 then 1 else 0), c)
theorem mEn_13 {v : Nat → Int32} {c : Nat} {x fu y : Int32} : mEn v c x fu y 13 = 0 := by unfold mEn; exact upd_s
theorem mCr_ok {v : Nat → Int32} {lv c : Nat} {x : Int32} (h : MW v lv c) (hx : mCr v x = true) : ∃ j, j < c ∧ x = nI j := by
  have hc := h.c20
  unfold mCr bIn at hx
  rw [h.ct] at hx
  have hx := of_decide_eq_true hx
  have h1 := Int32.le_iff_toInt_le.mp hx.1
  have h2 := Int32.le_iff_toInt_le.mp hx.2
  rw [Int32.toInt_sub, nI_toInt (by omega)] at h2
  have e0 : (0 : Int32).toInt = 0 := by decide
  have e1 : (1 : Int32).toInt = 1 := by decide
  rw [e1, Int.bmod_eq_of_le (by omega) (by omega)] at h2
  rw [e0] at h1
  refine ⟨x.toInt.toNat, by omega, Int32.toInt_inj.mp ?_⟩
  rw [nI_toInt (by omega)]
  omega
theorem MW.co {v : Nat → Int32} {lv c : Nat} {t : Nat → Int32} (h : MW v lv c) : MW (mCo v lv c t).2.1 lv (mCo v lv c t).2.2 := by
  unfold mCo
  split
  · split
    · exact h
    · next hw =>
      split
      · exact h.up (by omega) (by omega)
      · have h0 := mEw_ok hw
        have hc := h.c20
        exact (h.up (by omega) (by omega)).en (Nat.lt_of_le_of_ne hc (fun e => h0.2.2.2 (by rw [h.ct, e]; rfl))) (bIn_hk h0.1)
  · split
    · split
      · split
        · exact h
        · exact h.up (by omega) (by omega)
      · exact h
    · split
      · exact h.go _
      · exact h.up (by omega) (by omega)
/-! the model: run -/
def mRu (s : Nat → Int32) (L lv : Nat) : Nat → Nat → (Nat → Int32) → (Nat → Int32) → Nat → Nat → Nat × (Nat → Int32) × Nat × (Nat → Int32) × Nat
  | 0, p, t, v, c, n => (n, v, c, t, p)
  | f + 1, p, t, v, c, n => if L ≤ p then (n, v, c, t, p) else
      if (mCo v lv c (mSk s L t p)).1 = true then mRu s L lv f ((mSb s L p).2 + 1) (mSk s L t p) (mCo v lv c (mSk s L t p)).2.1 (mCo v lv c (mSk s L t p)).2.2 (n + 1)
      else (n, (mCo v lv c (mSk s L t p)).2.1, (mCo v lv c (mSk s L t p)).2.2, mSk s L t p, (mSb s L p).2 + 1)
theorem bIn_nat {x : Int32} (h : bIn x 1 99 = true) : ∃ m, x = nI m ∧ m < 2 ^ 31 := by
  have h := of_decide_eq_true h
  have h1 := Int32.le_iff_toInt_le.mp h.1
  have h2 := Int32.le_iff_toInt_le.mp h.2
  have e1 : (1 : Int32).toInt = 1 := by decide
  have e2 : (99 : Int32).toInt = 99 := by decide
  refine ⟨x.toInt.toNat, Int32.toInt_inj.mp ?_, by omega⟩
  rw [nI_toInt (by omega)]
  omega
theorem mIt_o {s t : Nat → Int32} {L p k j : Nat} (h : j ≠ k) : mIt s L p t k j = t j := by
  unfold mIt
  cases mNu s L p with
  | none => rfl
  | some q => exact upd_n h
theorem mSk_2 {s t : Nat → Int32} {L p : Nat} (h : (mSb s L p).1 = true) (h0 : mSk s L t p 0 = 2) : ∃ m, mSk s L t p 1 = nI m ∧ m < 2 ^ 31 := by
  by_cases h1 : mTk s L p 43 = true
  · refine absurd h0 ?_
    unfold mSk
    rw [if_pos h1]
    have e : upd (upd t 0 0) 1 (mKd s L (p + 1)) 0 = 0 := (upd_n (by decide)).trans upd_s
    split
    · rw [e]; decide
    · split
      · rw [mIt_o (by decide), e]; decide
      · split
        · rw [mIt_o (by decide), e]; decide
        · rw [mIt_o (by decide), mIt_o (by decide), e]; decide
  · by_cases h2 : mTk s L p 99 = true
    · refine absurd h0 ?_
      unfold mSk
      rw [if_neg h1, if_pos h2, mIt_o (by decide), upd_s]
      decide
    · by_cases h3 : mTk s L p 116 = true
      · unfold mSb at h
        rw [if_neg h1, if_neg h2, if_pos h3] at h
        unfold mSk
        rw [if_neg h1, if_neg h2, if_pos h3]
        simp only at h
        unfold mIs at h
        unfold mIt
        cases hq : mNu s L (p + 1) with
        | none => rw [hq] at h; cases h
        | some q =>
          rw [hq] at h
          simp only at h ⊢
          rw [upd_s]
          exact bIn_nat h
      · refine absurd h0 ?_
        unfold mSk
        rw [if_neg h1, if_neg h2, if_neg h3, upd_n (by decide), upd_s]
        decide
/-! the model: its checksum and its making -/
theorem lh_entryJ (h : Int64) (x : Int32) : lh ((lg_sl [.long h, .int x] ++ List.replicate (3 - (lg_sl [.long h, .int x]).length) Slot.unset).toArray) [some (.long h), none, some (.int x)] := by
  have e : lg_sl [.long h, .int x] = [.val (.long h), .second, .val (.int x)] := rfl
  have hl := lv_entry [.long h, .int x] (n := 3) (by rw [e]; exact Nat.le_refl 3)
  refine ⟨by rw [hl.1]; rfl, hl.2.1, fun i v hv => ?_⟩
  rw [e]
  match i, hv with
  | 0, hv => cases hv; rfl
  | 1, hv => cases hv
  | 2, hv => cases hv; rfl
  | i + 3, hv => cases hv
def mC1 (v : Nat → Int32) (q c : Nat) : Nat → Int64
  | 0 => 157
  | k + 1 => 31 * mC1 v q c k + (mTl v q c k).toInt64
def mC2 (v : Nat → Int32) (j : Nat) (h : Int64) : Nat → Int64
  | 0 => h
  | w + 1 => 31 * mC2 v j h w + (mCt v j w).toInt64
def mC3 (v : Nat → Int32) (lv c : Nat) (h : Int64) : Nat → Int64
  | 0 => h
  | j + 1 => 31 * (31 * mC2 v j (mC3 v lv c h j) 8 + (mWy v c j).toInt64) + (mLm v lv c j).toInt64
def mC4 (v : Nat → Int32) (c : Nat) (h : Int64) : Nat → Int64
  | 0 => h
  | k + 1 => 31 * mC4 v c h k + (oI (mOn v (nI k) c)).toInt64
def mCk (v : Nat → Int32) (q lv c : Nat) : Int64 := mC4 v c (mC3 v lv c (mC1 v q c 18) c) lv
