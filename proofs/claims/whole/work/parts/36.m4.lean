/-! the model: who lands, a minute, minutes -/
def mFar (v : Nat → Int32) (a : Nat) (q : Option Nat) : Bool := match q with
  | none => true
  | some j => decide (v (14 + 7 * a + 1) - v (14 + 7 * j + 1) < 0 ∨ (v (14 + 7 * a + 1) - v (14 + 7 * j + 1) = 0 ∧ v (14 + 7 * a + 3) < v (14 + 7 * j + 3)))
/-- the best below n: short aircraft over the runway -/
def mLb (v : Nat → Int32) : Nat → Option Nat
  | 0 => none
  | a + 1 => if mOv v a = true ∧ mSh v a = true ∧ mFar v a (mLb v a) = true then some a else mLb v a
theorem mLb_t {v : Nat → Int32} {a : Nat} (h : mOv v a = true ∧ mSh v a = true ∧ mFar v a (mLb v a) = true) : mLb v (a + 1) = some a := by rw [mLb, if_pos h]
theorem mLb_f {v : Nat → Int32} {a : Nat} (h : ¬ (mOv v a = true ∧ mSh v a = true ∧ mFar v a (mLb v a) = true)) : mLb v (a + 1) = mLb v a := by rw [mLb, if_neg h]
theorem mLb_lt {v : Nat → Int32} {a j : Nat} (h : mLb v a = some j) : j < a := by
  induction a with
  | zero => cases h
  | succ a ih =>
    rw [mLb] at h
    split at h
    · cases h; exact Nat.lt_succ_self _
    · have := ih h; omega
def mLd (v : Nat → Int32) (c : Nat) : Option Nat := match mLb v c with
  | some j => some j
  | none => match mOn v 0 c with
    | some j => if mOv v j = true then some j else none
    | none => none
theorem oI_n0 {q : Option Nat} (h : oI q < 0) (hq : ∀ j, q = some j → j < 20) : q = none := by
  cases q with
  | none => rfl
  | some j =>
    have := hq j rfl
    refine absurd h (Int32.not_lt.mpr ?_)
    show (0 : Int32) ≤ nI j
    rw [Int32.le_iff_toInt_le, nI_toInt (by omega)]
    exact Int.natCast_nonneg j
theorem oI_s0 {q : Option Nat} (h : ¬ oI q < 0) : ∃ j, q = some j := by
  cases q with
  | none => exact absurd (by decide) h
  | some j => exact ⟨j, rfl⟩
theorem oI_6 {q : Option Nat} (h : oI q = -6) (hq : ∀ j, q = some j → j < 20) : q = none := by
  cases q with
  | none => rfl
  | some j =>
    have := hq j rfl
    have h := congrArg Int32.toInt h
    rw [show oI (some j) = nI j from rfl, nI_toInt (by omega)] at h
    exact absurd h (by have : ((-6 : Int32)).toInt = -6 := by decide
                       omega)
theorem nI_n0 {j : Nat} (h : j < 20) : ¬ nI j < 0 := by
  intro hh
  have := oI_n0 (q := some j) hh (fun i e => by cases e; exact h)
  cases this
set_option maxHeartbeats 4000000 in
set_option maxRecDepth 20000 in
theorem c_X7_lander (l : Launch) (z : hZt) {n : Nat} {M : hMem} {R : hRef} (gM : gMd n R) {v : Nat → Int32} {lv c : Nat} (hW : MW v lv c) (hR3 : CR M) : hCt l z m_X7_lander [.ref (z.1 + 215)] n (putRow M 216 v) R n (some (.int (oI (mLd v c)))) (putRow M 216 v) R := by
  refine hs_start [some (.ref (z.1 + 215)), none, none, none] (by decide +kernel) rfl (by intro u hu; simp at hu; subst hu <;> first | rfl | exact isR_cat kv_isR | exact isR_cat aref_isR) (Nat.le_of_ble_eq_true rfl) (Nat.le_refl _) (fun X hlX hN hC hQ => ?_)
  dsimp only at hC hQ
  have hc20 := hW.c20
  have hl16 := hW.l16
  refine gx_bipush (v := -6) hC dX7_lander_0 bp_m6 ?_
  refine gx_istore_n (i := 1) (L' := [_, _, _, _]) hC dX7_lander_2 rfl (Nat.le_of_ble_eq_true rfl) rfl (fun u h9 => by first | exact Or.inl rfl | (cases h9; done) | (right; cases h9; first | rfl | exact isR_cat aref_isR | exact isR_cat kv_isR)) ?_
  refine gx_iconst (v := nI 0) hC dX7_lander_3 ic_0n ?_
  refine gx_istore_n (i := 2) (L' := [_, _, _, _]) hC dX7_lander_4 rfl (Nat.le_of_ble_eq_true rfl) rfl (fun u h9 => by first | exact Or.inl rfl | (cases h9; done) | (right; cases h9; first | rfl | exact isR_cat aref_isR | exact isR_cat kv_isR)) ?_
  have loop_5 : ∀ (k : Nat) (a : Nat) (u3 : Option Value), c - a < k → a ≤ c → hG z n X n (putRow M 216 v) R 5 [some (.ref (z.1 + 215)), some (.int (oI (mLb v a))), some (.int (nI a)), u3] [] := by
    intro k
    induction k with
    | zero => intros; omega
    | succ k ih =>
      intro a u3 hk1 ha
      refine gx_iload_n (i := 2) hC dX7_lander_5 rfl rfl ?_
      refine gx_aload_n (i := 0) hC dX7_lander_6 rfl rfl (by first | exact Or.inr ⟨_, rfl⟩ | exact Or.inl rfl | exact kv_isR | exact aref_isR) ?_
      refine gx_getR hC dX7_lander_7 fl_X7_7 (by first | exact gM.at215 | exact gM.at216 | exact gM.at217 | exact gM.at218 | exact gM.at219 | exact gM.at220 | exact gM.at221 | exact gM.at222 | exact gM.at223 | exact gM.at224 | exact gM.at225) rfl (gM.r216) (by decide) ?_
      refine gx_iconst (v := nI 3) hC dX7_lander_10 ic_3n ?_
      refine gx_iald hC dX7_lander_11 (by first | exact gM.at215 | exact gM.at216 | exact gM.at217 | exact gM.at218 | exact gM.at219 | exact gM.at220 | exact gM.at221 | exact gM.at222 | exact gM.at223 | exact gM.at224 | exact gM.at225) (by exact vpn (by omega) (by decide)) ((pRn (by omega)).trans hW.ct) ?_
      refine gx_icmp_ge (tgt := 108) hC dX7_lander_12 (by decide) (fun c_12 => ?_) (fun c_12 => ?_)
      · have d_12 := cle (by omega) (by omega) c_12
        obtain rfl : a = c := by omega
        cases hb : mLb v a with
        | some j =>
          have hj := mLb_lt hb
          rw [show oI (some j) = nI j from rfl]
          refine gx_aload_n (i := 0) hC dX7_lander_108 rfl rfl (by first | exact Or.inr ⟨_, rfl⟩ | exact Or.inl rfl | exact kv_isR | exact aref_isR) ?_
          refine gx_iconst (v := 0) hC dX7_lander_109 ic_0 ?_
          refine gx_callV1 hC dX7_lander_110 (c_X7_on _ _ gM hW _) kY_X7_on kV_X7_on ml_X7_68 (by first | exact gM.at215 | exact gM.at216 | exact gM.at217 | exact gM.at218 | exact gM.at219 | exact gM.at220 | exact gM.at221 | exact gM.at222 | exact gM.at223 | exact gM.at224 | exact gM.at225) rfl (by decide) rfl rfl rfl (by first | exact Nat.le_of_ble_eq_true rfl | (simp [Value.category, isR_cat kv_isR, isR_cat aref_isR]; done)) (Nat.le_refl _) (Nat.le_refl _) ?_
          refine gx_istore_n (i := 2) (L' := [_, _, _, _]) hC dX7_lander_113 rfl (Nat.le_of_ble_eq_true rfl) rfl (fun u h9 => by first | exact Or.inl rfl | (cases h9; done) | (right; cases h9; first | rfl | exact isR_cat aref_isR | exact isR_cat kv_isR)) ?_
          refine gx_iload_n (i := 1) hC dX7_lander_114 rfl rfl ?_
          refine gx_if_lt (tgt := 122) hC dX7_lander_115 (by decide) (fun c_115 => ?_) (fun c_115 => ?_)
          · exact absurd c_115 (nI_n0 (by omega))
          · refine gx_iload_n (i := 1) hC dX7_lander_118 rfl rfl ?_
            refine gx_goto (tgt := 140) hC dX7_lander_119 (by decide) ?_
            exact gx_iret hC hQ dX7_lander_140 ((by rw [mLd, hb]; rfl)) (rfl) rfl
        | none =>
          cases hl : mOn v 0 a with
          | none =>
            refine gx_aload_n (i := 0) hC dX7_lander_108 rfl rfl (by first | exact Or.inr ⟨_, rfl⟩ | exact Or.inl rfl | exact kv_isR | exact aref_isR) ?_
            refine gx_iconst (v := 0) hC dX7_lander_109 ic_0 ?_
            refine gx_callV1 hC dX7_lander_110 (c_X7_on _ _ gM hW _) kY_X7_on kV_X7_on ml_X7_68 (by first | exact gM.at215 | exact gM.at216 | exact gM.at217 | exact gM.at218 | exact gM.at219 | exact gM.at220 | exact gM.at221 | exact gM.at222 | exact gM.at223 | exact gM.at224 | exact gM.at225) rfl (by decide) rfl rfl rfl (by first | exact Nat.le_of_ble_eq_true rfl | (simp [Value.category, isR_cat kv_isR, isR_cat aref_isR]; done)) (Nat.le_refl _) (Nat.le_refl _) ?_
            rw [hl]
            refine gx_istore_n (i := 2) (L' := [_, _, _, _]) hC dX7_lander_113 rfl (Nat.le_of_ble_eq_true rfl) rfl (fun u h9 => by first | exact Or.inl rfl | (cases h9; done) | (right; cases h9; first | rfl | exact isR_cat aref_isR | exact isR_cat kv_isR)) ?_
            refine gx_iload_n (i := 1) hC dX7_lander_114 rfl rfl ?_
            refine gx_if_lt (tgt := 122) hC dX7_lander_115 (by decide) (fun c_115 => ?_) (fun c_115 => ?_)
            · refine gx_iload_n (i := 2) hC dX7_lander_122 rfl rfl ?_
              refine gx_if_lt (tgt := 138) hC dX7_lander_123 (by decide) (fun c_123 => ?_) (fun c_123 => ?_)
              · refine gx_bipush (v := -6) hC dX7_lander_138 bp_m6 ?_
                exact gx_iret hC hQ dX7_lander_140 ((by rw [mLd, hb]; simp only; rw [hl]; rfl)) (rfl) rfl
              · exact absurd (show (0 : Int32) ≤ -6 from Int32.not_lt.mp c_123) (by decide)
            · exact absurd (show (0 : Int32) ≤ -6 from Int32.not_lt.mp c_115) (by decide)
          | some j =>
            have hj := (mOn_lt hl).1
            refine gx_aload_n (i := 0) hC dX7_lander_108 rfl rfl (by first | exact Or.inr ⟨_, rfl⟩ | exact Or.inl rfl | exact kv_isR | exact aref_isR) ?_
            refine gx_iconst (v := 0) hC dX7_lander_109 ic_0 ?_
            refine gx_callV1 hC dX7_lander_110 (c_X7_on _ _ gM hW _) kY_X7_on kV_X7_on ml_X7_68 (by first | exact gM.at215 | exact gM.at216 | exact gM.at217 | exact gM.at218 | exact gM.at219 | exact gM.at220 | exact gM.at221 | exact gM.at222 | exact gM.at223 | exact gM.at224 | exact gM.at225) rfl (by decide) rfl rfl rfl (by first | exact Nat.le_of_ble_eq_true rfl | (simp [Value.category, isR_cat kv_isR, isR_cat aref_isR]; done)) (Nat.le_refl _) (Nat.le_refl _) ?_
            rw [hl, show oI (some j) = nI j from rfl]
            refine gx_istore_n (i := 2) (L' := [_, _, _, _]) hC dX7_lander_113 rfl (Nat.le_of_ble_eq_true rfl) rfl (fun u h9 => by first | exact Or.inl rfl | (cases h9; done) | (right; cases h9; first | rfl | exact isR_cat aref_isR | exact isR_cat kv_isR)) ?_
            refine gx_iload_n (i := 1) hC dX7_lander_114 rfl rfl ?_
            refine gx_if_lt (tgt := 122) hC dX7_lander_115 (by decide) (fun c_115 => ?_) (fun c_115 => ?_)
            · refine gx_iload_n (i := 2) hC dX7_lander_122 rfl rfl ?_
              refine gx_if_lt (tgt := 138) hC dX7_lander_123 (by decide) (fun c_123 => ?_) (fun c_123 => ?_)
              · exact absurd c_123 (nI_n0 (by omega))
              · refine gx_aload_n (i := 0) hC dX7_lander_126 rfl rfl (by first | exact Or.inr ⟨_, rfl⟩ | exact Or.inl rfl | exact kv_isR | exact aref_isR) ?_
                refine gx_iload_n (i := 2) hC dX7_lander_127 rfl rfl ?_
                refine gx_callV1 hC dX7_lander_128 (c_X7_isOver _ _ gM hW (by omega)) kY_X7_isOver kV_X7_isOver ml_X7_98 (by first | exact gM.at215 | exact gM.at216 | exact gM.at217 | exact gM.at218 | exact gM.at219 | exact gM.at220 | exact gM.at221 | exact gM.at222 | exact gM.at223 | exact gM.at224 | exact gM.at225) rfl (by decide) rfl rfl rfl (by first | exact Nat.le_of_ble_eq_true rfl | (simp [Value.category, isR_cat kv_isR, isR_cat aref_isR]; done)) (Nat.le_refl _) (Nat.le_refl _) ?_
                refine gx_ifb_eq (tgt := 138) hC dX7_lander_131 (by decide) (fun c_131 => ?_) (fun c_131 => ?_)
                · refine gx_bipush (v := -6) hC dX7_lander_138 bp_m6 ?_
                  exact gx_iret hC hQ dX7_lander_140 ((by rw [mLd, hb]; simp only; rw [hl]; simp only; rw [if_neg (by rw [c_131]; decide)]; rfl)) (rfl) rfl
                · refine gx_iload_n (i := 2) hC dX7_lander_134 rfl rfl ?_
                  refine gx_goto (tgt := 140) hC dX7_lander_135 (by decide) ?_
                  exact gx_iret hC hQ dX7_lander_140 ((by rw [mLd, hb]; simp only; rw [hl]; simp only; rw [if_pos c_131]; rfl)) (rfl) rfl
            · exact absurd (show (0 : Int32) ≤ -6 from Int32.not_lt.mp c_115) (by decide)
      · have d_12 := cnle (by omega) (by omega) c_12
        refine gx_aload_n (i := 0) hC dX7_lander_15 rfl rfl (by first | exact Or.inr ⟨_, rfl⟩ | exact Or.inl rfl | exact kv_isR | exact aref_isR) ?_
        refine gx_iload_n (i := 2) hC dX7_lander_16 rfl rfl ?_
        refine gx_callV1 hC dX7_lander_17 (c_X7_isOver _ _ gM hW (by omega)) kY_X7_isOver kV_X7_isOver ml_X7_98 (by first | exact gM.at215 | exact gM.at216 | exact gM.at217 | exact gM.at218 | exact gM.at219 | exact gM.at220 | exact gM.at221 | exact gM.at222 | exact gM.at223 | exact gM.at224 | exact gM.at225) rfl (by decide) rfl rfl rfl (by first | exact Nat.le_of_ble_eq_true rfl | (simp [Value.category, isR_cat kv_isR, isR_cat aref_isR]; done)) (Nat.le_refl _) (Nat.le_refl _) ?_
        refine gx_ifb_eq (tgt := 102) hC dX7_lander_20 (by decide) (fun c_20 => ?_) (fun c_20 => ?_)
        · refine gx_iinc (i := 2) (L' := [_, _, _, _]) hC dX7_lander_102 rfl (ii_1 _) (Nat.le_of_ble_eq_true rfl) rfl (fun u h9 => by first | exact Or.inl rfl | (cases h9; done) | (right; cases h9; first | rfl | exact isR_cat aref_isR | exact isR_cat kv_isR)) ?_
          refine gx_goto (tgt := 5) hC dX7_lander_105 (by decide) ?_
          have h9 := ih (a + 1) u3 (by omega) (by omega)
          rw [mLb_f (fun q => by rw [q.1] at c_20; cases c_20)] at h9
          exact h9
        · refine gx_aload_n (i := 0) hC dX7_lander_23 rfl rfl (by first | exact Or.inr ⟨_, rfl⟩ | exact Or.inl rfl | exact kv_isR | exact aref_isR) ?_
          refine gx_iload_n (i := 2) hC dX7_lander_24 rfl rfl ?_
          refine gx_callV1 hC dX7_lander_25 (c_X7_isShort _ _ gM hW hR3 (by omega)) kY_X7_isShort kV_X7_isShort ml_X7_101 (by first | exact gM.at215 | exact gM.at216 | exact gM.at217 | exact gM.at218 | exact gM.at219 | exact gM.at220 | exact gM.at221 | exact gM.at222 | exact gM.at223 | exact gM.at224 | exact gM.at225) rfl (by decide) rfl rfl rfl (by first | exact Nat.le_of_ble_eq_true rfl | (simp [Value.category, isR_cat kv_isR, isR_cat aref_isR]; done)) (Nat.le_refl _) (Nat.le_refl _) ?_
          refine gx_ifb_eq (tgt := 102) hC dX7_lander_28 (by decide) (fun c_28 => ?_) (fun c_28 => ?_)
          · refine gx_iinc (i := 2) (L' := [_, _, _, _]) hC dX7_lander_102 rfl (ii_1 _) (Nat.le_of_ble_eq_true rfl) rfl (fun u h9 => by first | exact Or.inl rfl | (cases h9; done) | (right; cases h9; first | rfl | exact isR_cat aref_isR | exact isR_cat kv_isR)) ?_
            refine gx_goto (tgt := 5) hC dX7_lander_105 (by decide) ?_
            have h9 := ih (a + 1) u3 (by omega) (by omega)
            rw [mLb_f (fun q => by rw [q.2.1] at c_28; cases c_28)] at h9
            exact h9
          · cases hb : mLb v a with
            | none =>
              refine gx_iload_n (i := 1) hC dX7_lander_31 rfl rfl ?_
              refine gx_if_ge (tgt := 39) hC dX7_lander_32 (by decide) (fun c_32 => ?_) (fun c_32 => ?_)
              · exact absurd (show (0 : Int32) ≤ -6 from c_32) (by decide)
              · refine gx_iconst (v := -1) hC dX7_lander_35 ic_m1 ?_
                refine gx_goto (tgt := 62) hC dX7_lander_36 (by decide) ?_
                refine gx_istore_n (i := 3) (L' := [_, _, _, _]) hC dX7_lander_62 rfl (Nat.le_of_ble_eq_true rfl) rfl (fun u h9 => by first | exact Or.inl rfl | (cases h9; done) | (right; cases h9; first | rfl | exact isR_cat aref_isR | exact isR_cat kv_isR)) ?_
                refine gx_iload_n (i := 3) hC dX7_lander_63 rfl rfl ?_
                refine gx_if_lt (tgt := 96) hC dX7_lander_64 (by decide) (fun c_64 => ?_) (fun c_64 => ?_)
                · refine gx_iload_n (i := 2) hC dX7_lander_96 rfl rfl ?_
                  refine gx_goto (tgt := 101) hC dX7_lander_97 (by decide) ?_
                  refine gx_istore_n (i := 1) (L' := [_, _, _, _]) hC dX7_lander_101 rfl (Nat.le_of_ble_eq_true rfl) rfl (fun u h9 => by first | exact Or.inl rfl | (cases h9; done) | (right; cases h9; first | rfl | exact isR_cat aref_isR | exact isR_cat kv_isR)) ?_
                  refine gx_iinc (i := 2) (L' := [_, _, _, _]) hC dX7_lander_102 rfl (ii_1 _) (Nat.le_of_ble_eq_true rfl) rfl (fun u h9 => by first | exact Or.inl rfl | (cases h9; done) | (right; cases h9; first | rfl | exact isR_cat aref_isR | exact isR_cat kv_isR)) ?_
                  refine gx_goto (tgt := 5) hC dX7_lander_105 (by decide) ?_
                  have h9 := ih (a + 1) (some (.int (-1))) (by omega) (by omega)
                  rw [mLb_t ⟨c_20, c_28, by rw [hb]; rfl⟩] at h9
                  exact h9
                · exact absurd c_64 (by decide)
            | some j =>
              have hj := mLb_lt hb
              rw [show oI (some j) = nI j from rfl]
              refine gx_iload_n (i := 1) hC dX7_lander_31 rfl rfl ?_
              refine gx_if_ge (tgt := 39) hC dX7_lander_32 (by decide) (fun c_32 => ?_) (fun c_32 => ?_)
              · refine gx_aload_n (i := 0) hC dX7_lander_39 rfl rfl (by first | exact Or.inr ⟨_, rfl⟩ | exact Or.inl rfl | exact kv_isR | exact aref_isR) ?_
                refine gx_getR hC dX7_lander_40 fl_X7_7 (by first | exact gM.at215 | exact gM.at216 | exact gM.at217 | exact gM.at218 | exact gM.at219 | exact gM.at220 | exact gM.at221 | exact gM.at222 | exact gM.at223 | exact gM.at224 | exact gM.at225) rfl (gM.r216) (by decide) ?_
                refine gx_iload_n (i := 2) hC dX7_lander_43 rfl rfl ?_
                refine gx_callS1 hC dX7_lander_44 (c_X7_at _ _ _) kY_X7_at kS_X7_at ml_X7_52 (by decide) rfl rfl rfl (by first | exact Nat.le_of_ble_eq_true rfl | (simp [Value.category, isR_cat kv_isR, isR_cat aref_isR]; done)) (Nat.le_refl _) (Nat.le_refl _) ?_
                refine gx_iconst (v := nI 1) hC dX7_lander_47 ic_1n ?_
                refine gx_iadd hC dX7_lander_48 ?_
                rw [nI_add]
                refine gx_iald hC dX7_lander_49 (by first | exact gM.at215 | exact gM.at216 | exact gM.at217 | exact gM.at218 | exact gM.at219 | exact gM.at220 | exact gM.at221 | exact gM.at222 | exact gM.at223 | exact gM.at224 | exact gM.at225) (by exact vpn (by omega) (by decide)) (pRn (by omega)) ?_
                refine gx_aload_n (i := 0) hC dX7_lander_50 rfl rfl (by first | exact Or.inr ⟨_, rfl⟩ | exact Or.inl rfl | exact kv_isR | exact aref_isR) ?_
                refine gx_getR hC dX7_lander_51 fl_X7_7 (by first | exact gM.at215 | exact gM.at216 | exact gM.at217 | exact gM.at218 | exact gM.at219 | exact gM.at220 | exact gM.at221 | exact gM.at222 | exact gM.at223 | exact gM.at224 | exact gM.at225) rfl (gM.r216) (by decide) ?_
                refine gx_iload_n (i := 1) hC dX7_lander_54 rfl rfl ?_
                refine gx_callS1 hC dX7_lander_55 (c_X7_at _ _ _) kY_X7_at kS_X7_at ml_X7_52 (by decide) rfl rfl rfl (by first | exact Nat.le_of_ble_eq_true rfl | (simp [Value.category, isR_cat kv_isR, isR_cat aref_isR]; done)) (Nat.le_refl _) (Nat.le_refl _) ?_
                refine gx_iconst (v := nI 1) hC dX7_lander_58 ic_1n ?_
                refine gx_iadd hC dX7_lander_59 ?_
                rw [nI_add]
                refine gx_iald hC dX7_lander_60 (by first | exact gM.at215 | exact gM.at216 | exact gM.at217 | exact gM.at218 | exact gM.at219 | exact gM.at220 | exact gM.at221 | exact gM.at222 | exact gM.at223 | exact gM.at224 | exact gM.at225) (by exact vpn (by omega) (by decide)) (pRn (by omega)) ?_
                refine gx_isub hC dX7_lander_61 ?_
                refine gx_istore_n (i := 3) (L' := [_, _, _, _]) hC dX7_lander_62 rfl (Nat.le_of_ble_eq_true rfl) rfl (fun u h9 => by first | exact Or.inl rfl | (cases h9; done) | (right; cases h9; first | rfl | exact isR_cat aref_isR | exact isR_cat kv_isR)) ?_
                refine gx_iload_n (i := 3) hC dX7_lander_63 rfl rfl ?_
                refine gx_if_lt (tgt := 96) hC dX7_lander_64 (by decide) (fun c_64 => ?_) (fun c_64 => ?_)
                · refine gx_iload_n (i := 2) hC dX7_lander_96 rfl rfl ?_
                  refine gx_goto (tgt := 101) hC dX7_lander_97 (by decide) ?_
                  refine gx_istore_n (i := 1) (L' := [_, _, _, _]) hC dX7_lander_101 rfl (Nat.le_of_ble_eq_true rfl) rfl (fun u h9 => by first | exact Or.inl rfl | (cases h9; done) | (right; cases h9; first | rfl | exact isR_cat aref_isR | exact isR_cat kv_isR)) ?_
                  refine gx_iinc (i := 2) (L' := [_, _, _, _]) hC dX7_lander_102 rfl (ii_1 _) (Nat.le_of_ble_eq_true rfl) rfl (fun u h9 => by first | exact Or.inl rfl | (cases h9; done) | (right; cases h9; first | rfl | exact isR_cat aref_isR | exact isR_cat kv_isR)) ?_
                  refine gx_goto (tgt := 5) hC dX7_lander_105 (by decide) ?_
                  have h9 := ih (a + 1) (some (.int (v (14 + 7 * a + 1) - v (14 + 7 * j + 1)))) (by omega) (by omega)
                  rw [mLb_t ⟨c_20, c_28, by rw [hb]; exact decide_eq_true (Or.inl c_64)⟩] at h9
                  exact h9
                · refine gx_iload_n (i := 3) hC dX7_lander_67 rfl rfl ?_
                  refine gx_if_ne (tgt := 100) hC dX7_lander_68 (by decide) (fun c_68 => ?_) (fun c_68 => ?_)
                  · refine gx_iload_n (i := 1) hC dX7_lander_100 rfl rfl ?_
                    refine gx_istore_n (i := 1) (L' := [_, _, _, _]) hC dX7_lander_101 rfl (Nat.le_of_ble_eq_true rfl) rfl (fun u h9 => by first | exact Or.inl rfl | (cases h9; done) | (right; cases h9; first | rfl | exact isR_cat aref_isR | exact isR_cat kv_isR)) ?_
                    refine gx_iinc (i := 2) (L' := [_, _, _, _]) hC dX7_lander_102 rfl (ii_1 _) (Nat.le_of_ble_eq_true rfl) rfl (fun u h9 => by first | exact Or.inl rfl | (cases h9; done) | (right; cases h9; first | rfl | exact isR_cat aref_isR | exact isR_cat kv_isR)) ?_
                    refine gx_goto (tgt := 5) hC dX7_lander_105 (by decide) ?_
                    have h9 := ih (a + 1) (some (.int (v (14 + 7 * a + 1) - v (14 + 7 * j + 1)))) (by omega) (by omega)
                    rw [mLb_f (fun q => by have q := q.2.2; rw [hb] at q; exact absurd (of_decide_eq_true q) (fun w => w.elim c_64 (fun w => c_68 w.1))), hb] at h9
                    exact h9
                  · refine gx_aload_n (i := 0) hC dX7_lander_71 rfl rfl (by first | exact Or.inr ⟨_, rfl⟩ | exact Or.inl rfl | exact kv_isR | exact aref_isR) ?_
                    refine gx_getR hC dX7_lander_72 fl_X7_7 (by first | exact gM.at215 | exact gM.at216 | exact gM.at217 | exact gM.at218 | exact gM.at219 | exact gM.at220 | exact gM.at221 | exact gM.at222 | exact gM.at223 | exact gM.at224 | exact gM.at225) rfl (gM.r216) (by decide) ?_
                    refine gx_iload_n (i := 2) hC dX7_lander_75 rfl rfl ?_
                    refine gx_callS1 hC dX7_lander_76 (c_X7_at _ _ _) kY_X7_at kS_X7_at ml_X7_52 (by decide) rfl rfl rfl (by first | exact Nat.le_of_ble_eq_true rfl | (simp [Value.category, isR_cat kv_isR, isR_cat aref_isR]; done)) (Nat.le_refl _) (Nat.le_refl _) ?_
                    refine gx_iconst (v := nI 3) hC dX7_lander_79 ic_3n ?_
                    refine gx_iadd hC dX7_lander_80 ?_
                    rw [nI_add]
                    refine gx_iald hC dX7_lander_81 (by first | exact gM.at215 | exact gM.at216 | exact gM.at217 | exact gM.at218 | exact gM.at219 | exact gM.at220 | exact gM.at221 | exact gM.at222 | exact gM.at223 | exact gM.at224 | exact gM.at225) (by exact vpn (by omega) (by decide)) (pRn (by omega)) ?_
                    refine gx_aload_n (i := 0) hC dX7_lander_82 rfl rfl (by first | exact Or.inr ⟨_, rfl⟩ | exact Or.inl rfl | exact kv_isR | exact aref_isR) ?_
                    refine gx_getR hC dX7_lander_83 fl_X7_7 (by first | exact gM.at215 | exact gM.at216 | exact gM.at217 | exact gM.at218 | exact gM.at219 | exact gM.at220 | exact gM.at221 | exact gM.at222 | exact gM.at223 | exact gM.at224 | exact gM.at225) rfl (gM.r216) (by decide) ?_
                    refine gx_iload_n (i := 1) hC dX7_lander_86 rfl rfl ?_
                    refine gx_callS1 hC dX7_lander_87 (c_X7_at _ _ _) kY_X7_at kS_X7_at ml_X7_52 (by decide) rfl rfl rfl (by first | exact Nat.le_of_ble_eq_true rfl | (simp [Value.category, isR_cat kv_isR, isR_cat aref_isR]; done)) (Nat.le_refl _) (Nat.le_refl _) ?_
                    refine gx_iconst (v := nI 3) hC dX7_lander_90 ic_3n ?_
                    refine gx_iadd hC dX7_lander_91 ?_
                    rw [nI_add]
                    refine gx_iald hC dX7_lander_92 (by first | exact gM.at215 | exact gM.at216 | exact gM.at217 | exact gM.at218 | exact gM.at219 | exact gM.at220 | exact gM.at221 | exact gM.at222 | exact gM.at223 | exact gM.at224 | exact gM.at225) (by exact vpn (by omega) (by decide)) (pRn (by omega)) ?_
                    refine gx_icmp_ge (tgt := 100) hC dX7_lander_93 (by decide) (fun c_93 => ?_) (fun c_93 => ?_)
                    · refine gx_iload_n (i := 1) hC dX7_lander_100 rfl rfl ?_
                      refine gx_istore_n (i := 1) (L' := [_, _, _, _]) hC dX7_lander_101 rfl (Nat.le_of_ble_eq_true rfl) rfl (fun u h9 => by first | exact Or.inl rfl | (cases h9; done) | (right; cases h9; first | rfl | exact isR_cat aref_isR | exact isR_cat kv_isR)) ?_
                      refine gx_iinc (i := 2) (L' := [_, _, _, _]) hC dX7_lander_102 rfl (ii_1 _) (Nat.le_of_ble_eq_true rfl) rfl (fun u h9 => by first | exact Or.inl rfl | (cases h9; done) | (right; cases h9; first | rfl | exact isR_cat aref_isR | exact isR_cat kv_isR)) ?_
                      refine gx_goto (tgt := 5) hC dX7_lander_105 (by decide) ?_
                      have h9 := ih (a + 1) (some (.int (v (14 + 7 * a + 1) - v (14 + 7 * j + 1)))) (by omega) (by omega)
                      rw [mLb_f (fun q => by have q := q.2.2; rw [hb] at q; exact absurd (of_decide_eq_true q) (fun w => w.elim c_64 (fun w => Int32.not_lt.mpr c_93 w.2))), hb] at h9
                      exact h9
                    · refine gx_iload_n (i := 2) hC dX7_lander_96 rfl rfl ?_
                      refine gx_goto (tgt := 101) hC dX7_lander_97 (by decide) ?_
                      refine gx_istore_n (i := 1) (L' := [_, _, _, _]) hC dX7_lander_101 rfl (Nat.le_of_ble_eq_true rfl) rfl (fun u h9 => by first | exact Or.inl rfl | (cases h9; done) | (right; cases h9; first | rfl | exact isR_cat aref_isR | exact isR_cat kv_isR)) ?_
                      refine gx_iinc (i := 2) (L' := [_, _, _, _]) hC dX7_lander_102 rfl (ii_1 _) (Nat.le_of_ble_eq_true rfl) rfl (fun u h9 => by first | exact Or.inl rfl | (cases h9; done) | (right; cases h9; first | rfl | exact isR_cat aref_isR | exact isR_cat kv_isR)) ?_
                      refine gx_goto (tgt := 5) hC dX7_lander_105 (by decide) ?_
                      have h9 := ih (a + 1) (some (.int (v (14 + 7 * a + 1) - v (14 + 7 * j + 1)))) (by omega) (by omega)
                      rw [mLb_t ⟨c_20, c_28, by rw [hb]; exact decide_eq_true (Or.inr ⟨c_68, Int32.not_le.mp c_93⟩)⟩] at h9
                      exact h9
              · exact absurd (Int32.not_le.mp c_32) (nI_n0 (by omega))
  exact loop_5 (c + 1) 0 none (by omega) (by omega)
