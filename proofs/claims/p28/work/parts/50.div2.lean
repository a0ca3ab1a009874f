/-! the diverted -/
theorem sSetH_n {f : hMem} {l : Nat} {x : Int32} (h : l < 16) : sSetH f (nI l) x = up2 f 2 l x := by
  unfold sSetH
  rw [if_pos, nI_clamp (by omega)]
  refine ⟨?_, (nI_ltI (by omega) (by decide)).mpr h⟩
  rw [Int32.le_iff_toInt_le, nI_toInt (by omega)]; exact Int.natCast_nonneg l
theorem sHold_n {f g : hMem} {i : Nat} (hi : i < 16) (h2 : g 0 2 = f 0 2) (h3 : g 0 3 = f 0 3) (h : g 2 i = f 2 i) : sHold g (nI i) = sHold f (nI i) := by
  unfold sHold bHas sNum
  rw [h2, h3, nI_clamp (by omega), h]
theorem mOn_none {v : Nat → Int32} {x : Int32} {n : Nat} (h : ∀ j, j < n → ¬ (v (14 + 7 * j + 2) = 0 ∧ v (14 + 7 * j + 3) = x)) : mOn v x n = none := by
  cases h1 : mOn v x n with
  | none => rfl
  | some j => exact absurd (mOn_lt h1).2 (h j (mOn_lt h1).1)
/-- some leave: who holds then -/
theorem mOn_leave {v w : Nat → Int32} {lv c : Nat} (h : WV v lv c) (S : Nat → Bool) {s : Int32} (hs : s ≠ 0)
    (h2 : ∀ j, j < c → w (14 + 7 * j + 2) = if S j = true then s else v (14 + 7 * j + 2)) (h3 : ∀ j, j < c → w (14 + 7 * j + 3) = v (14 + 7 * j + 3)) (x : Int32) :
    mOn w x c = match mOn v x c with
      | none => none
      | some j => if S j = true then none else some j := by
  cases h1 : mOn v x c with
  | none =>
    refine mOn_none (fun j hj q => mOn_no h1 hj ⟨?_, by rw [← h3 j hj]; exact q.2⟩)
    have := h2 j hj
    by_cases e : S j = true
    · rw [if_pos e] at this; exact absurd (this.symm.trans q.1) hs
    · rw [if_neg e] at this; exact this.symm.trans q.1
  | some j =>
    have hj := mOn_lt h1
    simp only
    have un : ∀ k, k < c → w (14 + 7 * k + 2) = 0 → w (14 + 7 * k + 3) = x → S k ≠ true ∧ k = j := by
      intro k hk e1 e2
      have := h2 k hk
      by_cases e : S k = true
      · rw [if_pos e] at this; exact absurd (this.symm.trans e1) hs
      · rw [if_neg e] at this
        exact ⟨e, (h.ac hj.1).un hj.2.1 hk (this.symm.trans e1) ((h3 k hk).symm.trans (e2.trans hj.2.2.symm))⟩
    by_cases e : S j = true
    · rw [if_pos e]
      exact mOn_none (fun k hk q => by have := un k hk q.1 q.2; rw [this.2] at this; exact this.1 e)
    · rw [if_neg e]
      cases h4 : mOn w x c with
      | none => exact absurd ⟨by rw [h2 j hj.1, if_neg e]; exact hj.2.1, by rw [h3 j hj.1]; exact hj.2.2⟩ (mOn_no h4 hj.1)
      | some k => rw [(un k (mOn_lt h4).1 (mOn_lt h4).2.1 (mOn_lt h4).2.2).2]
def dD (v : Nat → Int32) (j : Nat) : Bool := decide (v (14 + 7 * j + 2) = 0 ∧ 2 * v (14 + 7 * j + 1) < kRes (v (14 + 7 * j)))
def dG (v : Nat → Int32) (j : Nat) : Int32 := if dD v j = true then v (14 + 7 * j + 1) else 0
theorem dD_0 {v : Nat → Int32} {j : Nat} (h : dD v j = true) : v (14 + 7 * j + 2) = 0 := (of_decide_eq_true h).1
theorem mDs_at {v : Nat → Int32} (a : Nat) : (∀ k, k < 14 → k ≠ 12 → mDs v a k = v k) ∧ mDs v a 12 = v 12 + sm (dG v) a ∧
    ∀ j k, k < 7 → mDs v a (14 + 7 * j + k) = if (j < a ∧ dD v j = true) ∧ k = 2 then 2 else if (j < a ∧ dD v j = true) ∧ k = 6 then v 0 else v (14 + 7 * j + k) := by
  induction a with
  | zero => exact ⟨fun _ _ _ => rfl, by rw [sm, Int32.add_zero]; rfl, fun j k _ => by rw [if_neg (by omega), if_neg (by omega)]; rfl⟩
  | succ a ih =>
    obtain ⟨i1, i2, i3⟩ := ih
    have hw : ∀ k, k < 7 → mDs v a (14 + 7 * a + k) = v (14 + 7 * a + k) := fun k hk => by rw [i3 a k hk, if_neg (by omega), if_neg (by omega)]
    have hw0 : mDs v a (14 + 7 * a) = v (14 + 7 * a) := hw 0 (by decide)
    rw [mDs]
    unfold mD1
    rw [hw 2 (by decide), hw 1 (by decide), hw0]
    by_cases h0 : dD v a = true
    · rw [if_pos (of_decide_eq_true h0)]
      unfold mLeave
      rw [if_neg (by decide)]
      refine ⟨fun k hk h10 => ?_, ?_, fun j k hk => ?_⟩
      · rw [upd_n h10, upd_n (by omega), upd_n (by omega), i1 k hk h10]
      · rw [upd_s, upd_n (by omega), upd_n (by omega), upd_n (by omega), upd_n (by omega), i2, hw 1 (by decide), sm, dG, if_pos h0, Int32.add_assoc]
      · rw [upd_n (by omega)]
        by_cases e : j = a
        · subst e
          by_cases k6 : k = 6
          · subst k6; rw [upd_s, if_neg (by omega), if_pos ⟨⟨Nat.lt_succ_self _, h0⟩, rfl⟩, i1 0 (by decide) (by decide)]
          · rw [upd_n (by omega)]
            by_cases k2 : k = 2
            · subst k2; rw [upd_s, if_pos ⟨⟨Nat.lt_succ_self _, h0⟩, rfl⟩]
            · rw [upd_n (by omega), hw k hk, if_neg (by omega), if_neg (by omega)]
        · rw [upd_n (by omega), upd_n (by omega), i3 j k hk]
          have e2 : (j < a + 1) = (j < a) := by simp; omega
          simp only [e2]
    · rw [if_neg (fun q => h0 (decide_eq_true q))]
      refine ⟨i1, ?_, fun j k hk => ?_⟩
      · rw [i2, sm, dG, if_neg h0, Int32.add_zero]
      · rw [i3 j k hk]
        by_cases e : j = a
        · subst e
          rw [if_neg (by omega), if_neg (by omega), if_neg (fun q => h0 q.1.2), if_neg (fun q => h0 q.1.2)]
        · have e2 : (j < a + 1) = (j < a) := by simp; omega
          simp only [e2]
/-- which levels are left -/
def dL (v : Nat → Int32) (c l : Nat) : Bool := match mOn v (nI l) c with
  | none => false
  | some j => dD v j
theorem dv_at {f : hMem} {v : Nat → Int32} {lv c : Nat} (h : Rel f v lv c) {i : Nat} (hi : i ≤ lv) :
    (∀ k, k ≠ 14 → dv f i 0 k = f 0 k) ∧ (∀ l, l < 16 → dv f i 2 l = if l < i ∧ dL v c l = true then -6 else f 2 l) ∧ dv f i 0 14 = v 12 + sm (fun l => oG (dG v) (mOn v (nI l) c)) i ∧ (∀ j k, k ≠ 3 → k ≠ 7 → dv f i (3 + j) k = f (3 + j) k) ∧
    ∀ j, j < c → ((dD v j = true ∧ ∃ l, l < i ∧ v (14 + 7 * j + 3) = nI l) → dv f i (3 + j) 3 = 2 ∧ dv f i (3 + j) 7 = v 0) ∧
      (¬ (dD v j = true ∧ ∃ l, l < i ∧ v (14 + 7 * j + 3) = nI l) → dv f i (3 + j) 3 = f (3 + j) 3 ∧ dv f i (3 + j) 7 = f (3 + j) 7) := by
  have hl16 := h.sw.l16
  induction i with
  | zero => exact ⟨fun _ _ => rfl, fun l hl => by rw [if_neg (by omega)]; rfl, by rw [sm, Int32.add_zero]; exact h.sc (k := 14) (by decide) (by decide), fun _ _ _ _ => rfl, fun j hj => ⟨fun e => by obtain ⟨-, l, h1, -⟩ := e; omega, fun _ => ⟨rfl, rfl⟩⟩⟩
  | succ i ih =>
    obtain ⟨i1, i2, i3, i4, i5⟩ := ih (by omega)
    have hs : sHold (dv f i) (nI i) = mOn v (nI i) c := (sHold_n (by omega) (i1 2 (by decide)) (i1 3 (by decide)) (by rw [i2 i (by omega), if_neg (by omega)])).trans (h.on (by omega))
    have same : (¬ dL v c i = true) → (∀ l, l < 16 → dv f i 2 l = if l < i + 1 ∧ dL v c l = true then -6 else f 2 l) ∧
        ∀ j, j < c → ((dD v j = true ∧ ∃ l, l < i + 1 ∧ v (14 + 7 * j + 3) = nI l) → dv f i (3 + j) 3 = 2 ∧ dv f i (3 + j) 7 = v 0) ∧
      (¬ (dD v j = true ∧ ∃ l, l < i + 1 ∧ v (14 + 7 * j + 3) = nI l) → dv f i (3 + j) 3 = f (3 + j) 3 ∧ dv f i (3 + j) 7 = f (3 + j) 7) := by
      intro hd
      refine ⟨fun l hl => ?_, fun j hj => ?_⟩
      · rw [i2 l hl]
        by_cases e : l = i
        · subst e; rw [if_neg (by omega), if_neg (fun q => hd q.2)]
        · have e2 : (l < i + 1) = (l < i) := by simp; omega
          simp only [e2]
      · have e : (dD v j = true ∧ ∃ l, l < i + 1 ∧ v (14 + 7 * j + 3) = nI l) ↔ (dD v j = true ∧ ∃ l, l < i ∧ v (14 + 7 * j + 3) = nI l) := by
          refine ⟨fun q => ⟨q.1, ?_⟩, fun q => ⟨q.1, by obtain ⟨-, l, h1, h2⟩ := q; exact ⟨l, by omega, h2⟩⟩⟩
          obtain ⟨q0, l, h1, h2⟩ := q
          refine ⟨l, ?_, h2⟩
          by_cases el : l = i
          · subst el
            refine absurd ?_ hd
            have := mOn_is h.wv hj (dD_0 q0)
            rw [h2] at this
            unfold dL
            rw [this]
            exact q0
          · omega
        rw [e]
        exact i5 j hj
    cases hm : mOn v (nI i) c with
    | none =>
      rw [dv_none (hs.trans hm)]
      have hd : ¬ dL v c i = true := by unfold dL; rw [hm]; exact Bool.false_ne_true
      exact ⟨i1, (same hd).1, by rw [i3, sm, hm]; exact (Int32.add_zero _).symm.trans (Int32.add_assoc _ _ _), i4, (same hd).2⟩
    | some j0 =>
      have hj0 := mOn_lt hm
      have ha := h.ra hj0.1
      rw [dv_some (hs.trans hm)]
      have hn : ¬ (dD v j0 = true ∧ ∃ l, l < i ∧ v (14 + 7 * j0 + 3) = nI l) := by
        rintro ⟨-, l, h1, h2⟩
        have := (nI_eq (by omega) (by omega)).mp (h2.symm.trans hj0.2.2)
        omega
      have eq1 : dv f i (3 + j0) 1 = v (14 + 7 * j0) := (i4 j0 1 (by decide) (by decide)).trans ha.kd
      have eq2 : dv f i (3 + j0) 2 = v (14 + 7 * j0 + 1) := (i4 j0 2 (by decide) (by decide)).trans ha.fu
      have eq4 : dv f i (3 + j0) 4 = nI i := ((i4 j0 4 (by decide) (by decide)).trans (ha.le hj0.2.1)).trans hj0.2.2
      have eT : dv f i 0 9 = v 0 := (i1 9 (by decide)).trans (h.sc (k := 9) (by decide) (by decide))
      unfold sDv
      rw [eq1, eq2]
      by_cases h0 : dD v j0 = true
      · rw [if_pos (of_decide_eq_true h0).2]
        have hd : dL v c i = true := by unfold dL; rw [hm]; exact h0
        unfold sLeave
        rw [eq4, sSetH_n (by omega), eT]
        refine ⟨fun k hk => ?_, fun l hl => ?_, ?_, fun j k hk2 hk5 => ?_, fun j hj => ⟨fun e => ?_, fun e => ?_⟩⟩
        · rw [up2_off (by omega), up2_off (by omega), up2_off (by omega), up2_off (by omega), i1 k hk]
        · rw [up2_off (by omega), up2_off (by omega), up2_off (by omega)]
          by_cases e : l = i
          · subst e; rw [up2_same, if_pos ⟨Nat.lt_succ_self _, hd⟩]
          · rw [up2_off (by omega), i2 l hl]
            have e2 : (l < i + 1) = (l < i) := by simp; omega
            simp only [e2]
        · rw [up2_same, up2_off (by omega), up2_off (by omega), up2_off (by omega), up2_off (by omega), up2_off (by omega), up2_off (by omega), i3, eq2, sm, hm, Int32.add_assoc, show oG (dG v) (some j0) = v (14 + 7 * j0 + 1) from if_pos h0]
        · rw [up2_off (by omega), up2_off (by omega), up2_off (by omega), up2_off (by omega), i4 j k hk2 hk5]
        · by_cases ej : j = j0
          · subst ej
            exact ⟨by rw [up2_off (by omega), up2_off (by omega), up2_same], by rw [up2_off (by omega), up2_same]⟩
          · have e9 : dD v j = true ∧ ∃ l, l < i ∧ v (14 + 7 * j + 3) = nI l := by
              obtain ⟨e0, l, h1, h2⟩ := e
              refine ⟨e0, l, ?_, h2⟩
              by_cases el : l = i
              · subst el; exact absurd ((h.wv.ac hj0.1).un hj0.2.1 hj (dD_0 e0) (h2.trans hj0.2.2.symm)) ej
              · omega
            rw [up2_off (by omega), up2_off (by omega), up2_off (by omega), up2_off (by omega), up2_off (by omega), up2_off (by omega), up2_off (by omega), up2_off (by omega)]
            exact (i5 j hj).1 e9
        · by_cases ej : j = j0
          · subst ej
            exact absurd ⟨h0, i, Nat.lt_succ_self i, hj0.2.2⟩ e
          · rw [up2_off (by omega), up2_off (by omega), up2_off (by omega), up2_off (by omega), up2_off (by omega), up2_off (by omega), up2_off (by omega), up2_off (by omega)]
            exact (i5 j hj).2 (fun q => e ⟨q.1, by obtain ⟨-, l, h1, h2⟩ := q; exact ⟨l, by omega, h2⟩⟩)
      · rw [if_neg (fun q => h0 (decide_eq_true ⟨hj0.2.1, q⟩))]
        have hd : ¬ dL v c i = true := by unfold dL; rw [hm]; exact h0
        exact ⟨i1, (same hd).1, by rw [i3, sm, hm, show oG (dG v) (some j0) = 0 from if_neg h0]; exact (Int32.add_zero _).symm.trans (Int32.add_assoc _ _ _), i4, (same hd).2⟩
