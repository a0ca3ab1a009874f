theorem gx_wf {z : hZt} {n0 n pc : Nat} {X : hXt} {M : hMem} {R : hRef} {L : List (Option Value)} {st : List Value} (k : Wf n M → hG z n0 X n M R pc L st) : hG z n0 X n M R pc L st :=
  fun H locs ls h1 h2 h3 => k h1.2.2 H locs ls h1 h2 h3
theorem rv_ref {B o : Nat} (h : o ≠ 0) : rv B o = .ref (B + o) := by unfold rv; rw [if_neg h]
theorem gx_ifnull_rv {z : hZt} {n0 n nm nL d pc o : Nat} {X : hXt} {cc : ByteArray} {own : String} {M : hMem} {R : hRef} {L : List (Option Value)} {st : List Value} {off : Int} {tgt : Nat} (hC : hOk z n0 X cc own nL d nm) (hd : decode cc pc = .ok (.ifnonnull off, 3)) (ht : (pc : Int) + off = (tgt : Int)) (kt : o ≠ 0 → hG z n0 X n M R tgt L st) (kf : o = 0 → hG z n0 X n M R (pc + 3) L st) : hG z n0 X n M R pc L (rv z.1 o :: st) := by
  by_cases h : o = 0
  · subst h; exact gx_ifnonnull_null hC hd (kf rfl)
  · rw [rv_ref h]; exact gx_ifnonnull_ref hC hd ht (kt h)
/-- the state before last comes back into the state at 1 -/
def oM (M : hMem) (R : hRef) (s c : Nat) : hMem := putS (up2 M 47 1 (nI (s - 1))) 1 (sCopy (getS M 1) (getS M (R 48 (s - 1))) c)
def Cnt (M : hMem) (p c : Nat) : Prop := M p 2 = nI c ∧ c ≤ 20
set_option maxHeartbeats 4000000 in
set_option maxRecDepth 20000 in
theorem c_X1_popInto (l : Launch) (z : hZt) {n : Nat} {M : hMem} {R : hRef} (gG : GS n R) {s c : Nat} (hs : M 47 1 = nI s) (hs0 : 0 < s) (hs5 : s ≤ 5) (hc : Cnt M (R 48 (s - 1)) c) : hCt l z m_X1_popInto [.ref (z.1 + 47), .ref (z.1 + 1)] n M R n (some (.int 1)) (oM M R s c) R := by
  refine hs_start [some (.ref (z.1 + 47)), some (.ref (z.1 + 1))] (by decide +kernel) rfl (by intro u hu; simp at hu; rcases hu with rfl | rfl <;> first | rfl | exact isR_cat kv_isR | exact isR_cat aref_isR) (Nat.le_of_ble_eq_true rfl) (Nat.le_refl _) (fun X hlX hN hC hQ => ?_)
  dsimp only at hC hQ
  have hbs := gG.bs (show s - 1 < 5 by omega)
  refine gx_aload_n (i := 0) hC dX1_popInto_0 rfl rfl (by first | exact Or.inr ⟨_, rfl⟩ | exact Or.inl rfl | exact kv_isR | exact aref_isR) ?_
  refine gx_getI hC dX1_popInto_1 fl_X1_18 (by first | exact gG.at0 | exact gG.at47 | exact gG.at48 | exact gG.at164 | exact gG.at165 | exact gG.at166 | exact gG.at213 | exact gG.at214 | exact gG.now.at | exact gG.ahd.at) (by decide) (hs) ?_
  refine gx_if_le (tgt := 19) hC dX1_popInto_4 (by decide) (fun c_4 => ?_) (fun c_4 => ?_)
  · have d_4 := cle (b := 0) (by omega) (by decide) c_4
    omega
  · refine gx_aload_n (i := 0) hC dX1_popInto_7 rfl rfl (by first | exact Or.inr ⟨_, rfl⟩ | exact Or.inl rfl | exact kv_isR | exact aref_isR) ?_
    refine gx_getI hC dX1_popInto_8 fl_X1_18 (by first | exact gG.at0 | exact gG.at47 | exact gG.at48 | exact gG.at164 | exact gG.at165 | exact gG.at166 | exact gG.at213 | exact gG.at214 | exact gG.now.at | exact gG.ahd.at) (by decide) (hs) ?_
    refine gx_aload_n (i := 0) hC dX1_popInto_11 rfl rfl (by first | exact Or.inr ⟨_, rfl⟩ | exact Or.inl rfl | exact kv_isR | exact aref_isR) ?_
    refine gx_getR hC dX1_popInto_12 fl_X1_11 (by first | exact gG.at0 | exact gG.at47 | exact gG.at48 | exact gG.at164 | exact gG.at165 | exact gG.at166 | exact gG.at213 | exact gG.at214 | exact gG.now.at | exact gG.ahd.at) rfl (gG.q0) (by decide) ?_
    refine gx_alenN hC dX1_popInto_15 (by first | exact gG.at0 | exact gG.at47 | exact gG.at48 | exact gG.at164 | exact gG.at165 | exact gG.at166 | exact gG.at213 | exact gG.at214 | exact gG.now.at | exact gG.ahd.at) (by decide) ?_
    refine gx_icmp_le (tgt := 21) hC dX1_popInto_16 (by decide) (fun c_16 => ?_) (fun c_16 => ?_)
    · refine gx_aload_n (i := 0) hC dX1_popInto_21 rfl rfl (by first | exact Or.inr ⟨_, rfl⟩ | exact Or.inl rfl | exact kv_isR | exact aref_isR) ?_
      refine gx_dup hC dX1_popInto_22 (by first | rfl | exact isR_cat kv_isR | exact isR_cat aref_isR) ?_
      refine gx_getI hC dX1_popInto_23 fl_X1_18 (by first | exact gG.at0 | exact gG.at47 | exact gG.at48 | exact gG.at164 | exact gG.at165 | exact gG.at166 | exact gG.at213 | exact gG.at214 | exact gG.now.at | exact gG.ahd.at) (by decide) (hs) ?_
      refine gx_iconst (v := 1) hC dX1_popInto_26 ic_1 ?_
      refine gx_isub hC dX1_popInto_27 ?_
      rw [show nI s - 1 = nI (s - 1) from by rw [show s = (s - 1) + 1 by omega, nI_p1]; rfl]
      refine gx_putI hC dX1_popInto_28 fl_X1_18 (by first | exact gG.at0 | exact gG.at47 | exact gG.at48 | exact gG.at164 | exact gG.at165 | exact gG.at166 | exact gG.at213 | exact gG.at214 | exact gG.now.at | exact gG.ahd.at) fn_1_1 rfl (rfl) ?_
      refine gx_aload_n (i := 1) hC dX1_popInto_31 rfl rfl (by first | exact Or.inr ⟨_, rfl⟩ | exact Or.inl rfl | exact kv_isR | exact aref_isR) ?_
      refine gx_aload_n (i := 0) hC dX1_popInto_32 rfl rfl (by first | exact Or.inr ⟨_, rfl⟩ | exact Or.inl rfl | exact kv_isR | exact aref_isR) ?_
      refine gx_getR hC dX1_popInto_33 fl_X1_11 (by first | exact gG.at0 | exact gG.at47 | exact gG.at48 | exact gG.at164 | exact gG.at165 | exact gG.at166 | exact gG.at213 | exact gG.at214 | exact gG.now.at | exact gG.ahd.at) rfl (gG.q0) (by decide) ?_
      refine gx_aload_n (i := 0) hC dX1_popInto_36 rfl rfl (by first | exact Or.inr ⟨_, rfl⟩ | exact Or.inl rfl | exact kv_isR | exact aref_isR) ?_
      refine gx_getI hC dX1_popInto_37 fl_X1_18 (by first | exact gG.at0 | exact gG.at47 | exact gG.at48 | exact gG.at164 | exact gG.at165 | exact gG.at166 | exact gG.at213 | exact gG.at214 | exact gG.now.at | exact gG.ahd.at) (by decide) (show _ = nI (s - 1) from up2_same) ?_
      refine gx_aald hC dX1_popInto_40 (by first | exact gG.at0 | exact gG.at47 | exact gG.at48 | exact gG.at164 | exact gG.at165 | exact gG.at166 | exact gG.at213 | exact gG.at214 | exact gG.now.at | exact gG.ahd.at) (by first | exact Or.inl rfl | exact Or.inr rfl) (by exact vpn (by omega) (by decide)) (show _ = R 48 (s - 1) from by rw [nI_clamp (by omega)]) (by have := hbs.ge; omega) ?_
      refine gx_callV0 hC dX1_popInto_41 (d_X4_copyFrom gG.now (gG.hb hbs) (Or.inr (by have := hbs.ge; omega)) (show up2 M 47 1 (nI (s - 1)) (R 48 (s - 1)) 2 = nI c from (up2_off (by have := hbs.ge; omega)).trans hc.1) hc.2) kY_X4_copyFrom kV_X4_copyFrom ml_X1_25 (by first | exact gG.at0 | exact gG.at47 | exact gG.at48 | exact gG.at164 | exact gG.at165 | exact gG.at166 | exact gG.at213 | exact gG.at214 | exact gG.now.at | exact gG.ahd.at) rfl (by decide) rfl rfl rfl (by first | exact Nat.le_of_ble_eq_true rfl | (simp [Value.category, isR_cat kv_isR, isR_cat aref_isR]; done)) (Nat.le_refl _) (Nat.le_refl _) ?_
      refine gx_iconst (v := 1) hC dX1_popInto_44 ic_1 ?_
      exact gx_zret hC hQ dX1_popInto_45 (by first | exact Or.inl rfl | exact Or.inr rfl) (rfl) (by unfold oM; rw [getS_up (by decide), getS_up (by have := hbs.ge; omega)]) rfl
    · have d_16 := mt (nI_leI (a := s) (b := 5) (by omega) (by decide)).mpr c_16
      omega
set_option maxHeartbeats 4000000 in
set_option maxRecDepth 20000 in
theorem c0_X1_popInto (l : Launch) (z : hZt) {n : Nat} {M : hMem} {R : hRef} (gG : GS n R) (hs : M 47 1 = 0) : hCt l z m_X1_popInto [.ref (z.1 + 47), .ref (z.1 + 1)] n M R n (some (.int 0)) M R := by
  refine hs_start [some (.ref (z.1 + 47)), some (.ref (z.1 + 1))] (by decide +kernel) rfl (by intro u hu; simp at hu; rcases hu with rfl | rfl <;> first | rfl | exact isR_cat kv_isR | exact isR_cat aref_isR) (Nat.le_of_ble_eq_true rfl) (Nat.le_refl _) (fun X hlX hN hC hQ => ?_)
  dsimp only at hC hQ
  refine gx_aload_n (i := 0) hC dX1_popInto_0 rfl rfl (by first | exact Or.inr ⟨_, rfl⟩ | exact Or.inl rfl | exact kv_isR | exact aref_isR) ?_
  refine gx_getI hC dX1_popInto_1 fl_X1_18 (by first | exact gG.at0 | exact gG.at47 | exact gG.at48 | exact gG.at164 | exact gG.at165 | exact gG.at166 | exact gG.at213 | exact gG.at214 | exact gG.now.at | exact gG.ahd.at) (by decide) (hs) ?_
  refine gx_if_le (tgt := 19) hC dX1_popInto_4 (by decide) (fun c_4 => ?_) (fun c_4 => ?_)
  · refine gx_iconst (v := 0) hC dX1_popInto_19 ic_0 ?_
    exact gx_zret hC hQ dX1_popInto_20 (by exact Or.inl rfl) (rfl) (rfl) rfl
  · exact absurd (Int32.le_refl 0) c_4
def bSl (x : Int32) : Bool := decide (0 ≤ x ∧ x < nI 2)
theorem bSl_in {x : Int32} (h : bSl x = true) : vp_in x 2 := by
  have h := of_decide_eq_true h
  rw [vp_in_iff]
  simp only [Int32.le_iff_toInt_le, Int32.lt_iff_toInt_lt, ni_2, Int32.toInt_zero] at h
  omega
/-- the state that a slot keeps -/
def slB (x : Int32) : Nat := 167 + 23 * x.toNatClampNeg
theorem slB_R {n : Nat} {R : hRef} (h : GS n R) {x : Int32} (hx : bSl x = true) : R 165 x.toNatClampNeg = slB x ∧ hSt n R (slB x) ∧ 167 ≤ slB x ∧ slB x ≤ 190 := by
  have h2 : x.toNatClampNeg < 2 := Nat.not_le.mp fun q => bSl_in hx (Or.inr q)
  unfold slB
  rcases (show x.toNatClampNeg = 0 ∨ x.toNatClampNeg = 1 by omega) with e | e <;> rw [e]
  · exact ⟨h.q3, h.s0, by decide, by decide⟩
  · exact ⟨h.q4, h.s1, by decide, by decide⟩
set_option maxHeartbeats 4000000 in
set_option maxRecDepth 20000 in
theorem c_X3_has (l : Launch) (z : hZt) {n : Nat} {M : hMem} {R : hRef} (gG : GS n R) (x : Int32) : hCt l z m_X3_has [.ref (z.1 + 164), .int x] n M R n (some (.int (b2 (bSl x)))) M R := by
  refine hs_start [some (.ref (z.1 + 164)), some (.int x)] (by decide +kernel) rfl (by intro u hu; simp at hu; rcases hu with rfl | rfl <;> first | rfl | exact isR_cat kv_isR | exact isR_cat aref_isR) (Nat.le_of_ble_eq_true rfl) (Nat.le_refl _) (fun X hlX hN hC hQ => ?_)
  dsimp only at hC hQ
  refine gx_iload_n (i := 1) hC dX3_has_0 rfl rfl ?_
  refine gx_if_lt (tgt := 26) hC dX3_has_1 (by decide) (fun c_1 => ?_) (fun c_1 => ?_)
  · refine gx_iconst (v := 0) hC dX3_has_26 ic_0 ?_
    exact gx_zret hC hQ dX3_has_27 (by first | exact Or.inl rfl | exact Or.inr rfl | exact b2_bit _ | assumption) (by first | exact bv1 (by unfold bSl; exact decide_eq_true (by (clear hQ hC hN hlX; simp only [Int32.le_iff_toInt_le, Int32.lt_iff_toInt_lt, Int32.not_le, Int32.not_lt, ← Int32.toInt_inj, i32c_0, i32c_1, i32c_2, i32c_3, i32c_4, i32c_5, i32c_6, i32c_7, i32c_8, i32c_9, i32c_16, i32c_20, i32c_99, i32c_m1, i32c_m6, ni_16, ni_20, ni_80, ni_2, ni_5, ni_0, ne_eq] at *; omega))) | exact bv0 (by unfold bSl; exact decide_eq_false (by (clear hQ hC hN hlX; simp only [Int32.le_iff_toInt_le, Int32.lt_iff_toInt_lt, Int32.not_le, Int32.not_lt, ← Int32.toInt_inj, i32c_0, i32c_1, i32c_2, i32c_3, i32c_4, i32c_5, i32c_6, i32c_7, i32c_8, i32c_9, i32c_16, i32c_20, i32c_99, i32c_m1, i32c_m6, ni_16, ni_20, ni_80, ni_2, ni_5, ni_0, ne_eq] at *; omega)))) (rfl) rfl
  · refine gx_iload_n (i := 1) hC dX3_has_4 rfl rfl ?_
    refine gx_aload_n (i := 0) hC dX3_has_5 rfl rfl (by first | exact Or.inr ⟨_, rfl⟩ | exact Or.inl rfl | exact kv_isR | exact aref_isR) ?_
    refine gx_getR hC dX3_has_6 fl_X3_11 (by first | exact gG.at0 | exact gG.at47 | exact gG.at48 | exact gG.at164 | exact gG.at165 | exact gG.at166 | exact gG.at213 | exact gG.at214 | exact gG.now.at | exact gG.ahd.at) rfl (gG.q1) (by decide) ?_
    refine gx_alenN hC dX3_has_9 (by first | exact gG.at0 | exact gG.at47 | exact gG.at48 | exact gG.at164 | exact gG.at165 | exact gG.at166 | exact gG.at213 | exact gG.at214 | exact gG.now.at | exact gG.ahd.at) (by decide) ?_
    refine gx_icmp_ge (tgt := 26) hC dX3_has_10 (by decide) (fun c_10 => ?_) (fun c_10 => ?_)
    · refine gx_iconst (v := 0) hC dX3_has_26 ic_0 ?_
      exact gx_zret hC hQ dX3_has_27 (by first | exact Or.inl rfl | exact Or.inr rfl | exact b2_bit _ | assumption) (by first | exact bv1 (by unfold bSl; exact decide_eq_true (by (clear hQ hC hN hlX; simp only [Int32.le_iff_toInt_le, Int32.lt_iff_toInt_lt, Int32.not_le, Int32.not_lt, ← Int32.toInt_inj, i32c_0, i32c_1, i32c_2, i32c_3, i32c_4, i32c_5, i32c_6, i32c_7, i32c_8, i32c_9, i32c_16, i32c_20, i32c_99, i32c_m1, i32c_m6, ni_16, ni_20, ni_80, ni_2, ni_5, ni_0, ne_eq] at *; omega))) | exact bv0 (by unfold bSl; exact decide_eq_false (by (clear hQ hC hN hlX; simp only [Int32.le_iff_toInt_le, Int32.lt_iff_toInt_lt, Int32.not_le, Int32.not_lt, ← Int32.toInt_inj, i32c_0, i32c_1, i32c_2, i32c_3, i32c_4, i32c_5, i32c_6, i32c_7, i32c_8, i32c_9, i32c_16, i32c_20, i32c_99, i32c_m1, i32c_m6, ni_16, ni_20, ni_80, ni_2, ni_5, ni_0, ne_eq] at *; omega)))) (rfl) rfl
    · refine gx_iload_n (i := 1) hC dX3_has_13 rfl rfl ?_
      refine gx_aload_n (i := 0) hC dX3_has_14 rfl rfl (by first | exact Or.inr ⟨_, rfl⟩ | exact Or.inl rfl | exact kv_isR | exact aref_isR) ?_
      refine gx_getR hC dX3_has_15 fl_X3_17 (by first | exact gG.at0 | exact gG.at47 | exact gG.at48 | exact gG.at164 | exact gG.at165 | exact gG.at166 | exact gG.at213 | exact gG.at214 | exact gG.now.at | exact gG.ahd.at) rfl (gG.q2) (by decide) ?_
      refine gx_alenN hC dX3_has_18 (by first | exact gG.at0 | exact gG.at47 | exact gG.at48 | exact gG.at164 | exact gG.at165 | exact gG.at166 | exact gG.at213 | exact gG.at214 | exact gG.now.at | exact gG.ahd.at) (by decide) ?_
      refine gx_icmp_ge (tgt := 26) hC dX3_has_19 (by decide) (fun c_19 => ?_) (fun c_19 => ?_)
      · refine gx_iconst (v := 0) hC dX3_has_26 ic_0 ?_
        exact gx_zret hC hQ dX3_has_27 (by first | exact Or.inl rfl | exact Or.inr rfl | exact b2_bit _ | assumption) (by first | exact bv1 (by unfold bSl; exact decide_eq_true (by (clear hQ hC hN hlX; simp only [Int32.le_iff_toInt_le, Int32.lt_iff_toInt_lt, Int32.not_le, Int32.not_lt, ← Int32.toInt_inj, i32c_0, i32c_1, i32c_2, i32c_3, i32c_4, i32c_5, i32c_6, i32c_7, i32c_8, i32c_9, i32c_16, i32c_20, i32c_99, i32c_m1, i32c_m6, ni_16, ni_20, ni_80, ni_2, ni_5, ni_0, ne_eq] at *; omega))) | exact bv0 (by unfold bSl; exact decide_eq_false (by (clear hQ hC hN hlX; simp only [Int32.le_iff_toInt_le, Int32.lt_iff_toInt_lt, Int32.not_le, Int32.not_lt, ← Int32.toInt_inj, i32c_0, i32c_1, i32c_2, i32c_3, i32c_4, i32c_5, i32c_6, i32c_7, i32c_8, i32c_9, i32c_16, i32c_20, i32c_99, i32c_m1, i32c_m6, ni_16, ni_20, ni_80, ni_2, ni_5, ni_0, ne_eq] at *; omega)))) (rfl) rfl
      · refine gx_iconst (v := 1) hC dX3_has_22 ic_1 ?_
        refine gx_goto (tgt := 27) hC dX3_has_23 (by decide) ?_
        exact gx_zret hC hQ dX3_has_27 (by first | exact Or.inl rfl | exact Or.inr rfl | exact b2_bit _ | assumption) (by first | exact bv1 (by unfold bSl; exact decide_eq_true (by (clear hQ hC hN hlX; simp only [Int32.le_iff_toInt_le, Int32.lt_iff_toInt_lt, Int32.not_le, Int32.not_lt, ← Int32.toInt_inj, i32c_0, i32c_1, i32c_2, i32c_3, i32c_4, i32c_5, i32c_6, i32c_7, i32c_8, i32c_9, i32c_16, i32c_20, i32c_99, i32c_m1, i32c_m6, ni_16, ni_20, ni_80, ni_2, ni_5, ni_0, ne_eq] at *; omega))) | exact bv0 (by unfold bSl; exact decide_eq_false (by (clear hQ hC hN hlX; simp only [Int32.le_iff_toInt_le, Int32.lt_iff_toInt_lt, Int32.not_le, Int32.not_lt, ← Int32.toInt_inj, i32c_0, i32c_1, i32c_2, i32c_3, i32c_4, i32c_5, i32c_6, i32c_7, i32c_8, i32c_9, i32c_16, i32c_20, i32c_99, i32c_m1, i32c_m6, ni_16, ni_20, ni_80, ni_2, ni_5, ni_0, ne_eq] at *; omega)))) (rfl) rfl
def kM (M : hMem) (x : Int32) (c : Nat) : hMem := up2 (putS M (slB x) (sCopy (getS M (slB x)) (getS M 1) c)) 166 x.toNatClampNeg 1
set_option maxHeartbeats 4000000 in
set_option maxRecDepth 20000 in
theorem c_X3_put (l : Launch) (z : hZt) {n : Nat} {M : hMem} {R : hRef} (gG : GS n R) {c : Nat} (hc : Cnt M 1 c) {x : Int32} (hx : bSl x = true) : hCt l z m_X3_put [.ref (z.1 + 164), .int x, .ref (z.1 + 1)] n M R n (some (.int 1)) (kM M x c) R := by
  refine hs_start [some (.ref (z.1 + 164)), some (.int x), some (.ref (z.1 + 1))] (by decide +kernel) rfl (by intro u hu; simp at hu; rcases hu with rfl | rfl | rfl <;> first | rfl | exact isR_cat kv_isR | exact isR_cat aref_isR) (Nat.le_of_ble_eq_true rfl) (Nat.le_refl _) (fun X hlX hN hC hQ => ?_)
  dsimp only at hC hQ
  refine gx_aload_n (i := 0) hC dX3_put_0 rfl rfl (by first | exact Or.inr ⟨_, rfl⟩ | exact Or.inl rfl | exact kv_isR | exact aref_isR) ?_
  refine gx_iload_n (i := 1) hC dX3_put_1 rfl rfl ?_
  refine gx_callV1 hC dX3_put_2 (c_X3_has _ _ gG _) kY_X3_has kV_X3_has ml_X3_22 (by first | exact gG.at0 | exact gG.at47 | exact gG.at48 | exact gG.at164 | exact gG.at165 | exact gG.at166 | exact gG.at213 | exact gG.at214 | exact gG.now.at | exact gG.ahd.at) rfl (by decide) rfl rfl rfl (by first | exact Nat.le_of_ble_eq_true rfl | (simp [Value.category, isR_cat kv_isR, isR_cat aref_isR]; done)) (Nat.le_refl _) (Nat.le_refl _) ?_
  refine gx_ifb_ne (tgt := 10) hC dX3_put_5 (by decide) (fun c_5 => ?_) (fun c_5 => ?_)
  · refine gx_aload_n (i := 0) hC dX3_put_10 rfl rfl (by first | exact Or.inr ⟨_, rfl⟩ | exact Or.inl rfl | exact kv_isR | exact aref_isR) ?_
    refine gx_getR hC dX3_put_11 fl_X3_11 (by first | exact gG.at0 | exact gG.at47 | exact gG.at48 | exact gG.at164 | exact gG.at165 | exact gG.at166 | exact gG.at213 | exact gG.at214 | exact gG.now.at | exact gG.ahd.at) rfl (gG.q1) (by decide) ?_
    refine gx_iload_n (i := 1) hC dX3_put_14 rfl rfl ?_
    refine gx_aald hC dX3_put_15 (by first | exact gG.at0 | exact gG.at47 | exact gG.at48 | exact gG.at164 | exact gG.at165 | exact gG.at166 | exact gG.at213 | exact gG.at214 | exact gG.now.at | exact gG.ahd.at) (by first | exact Or.inl rfl | exact Or.inr rfl) (by exact bSl_in c_5) ((slB_R gG hx).1) (by have := (slB_R gG hx).2.2; omega) ?_
    refine gx_aload_n (i := 2) hC dX3_put_16 rfl rfl (by first | exact Or.inr ⟨_, rfl⟩ | exact Or.inl rfl | exact kv_isR | exact aref_isR) ?_
    refine gx_callV0 hC dX3_put_17 (d_X4_copyFrom (slB_R gG hx).2.1 gG.now (Or.inl (by have := (slB_R gG hx).2.2; omega)) hc.1 hc.2) kY_X4_copyFrom kV_X4_copyFrom ml_X3_26 (by exact (slB_R gG hx).2.1.at) rfl (by decide) rfl rfl rfl (by first | exact Nat.le_of_ble_eq_true rfl | (simp [Value.category, isR_cat kv_isR, isR_cat aref_isR]; done)) (Nat.le_refl _) (Nat.le_refl _) ?_
    refine gx_aload_n (i := 0) hC dX3_put_20 rfl rfl (by first | exact Or.inr ⟨_, rfl⟩ | exact Or.inl rfl | exact kv_isR | exact aref_isR) ?_
    refine gx_getR hC dX3_put_21 fl_X3_17 (by first | exact gG.at0 | exact gG.at47 | exact gG.at48 | exact gG.at164 | exact gG.at165 | exact gG.at166 | exact gG.at213 | exact gG.at214 | exact gG.now.at | exact gG.ahd.at) rfl (gG.q2) (by decide) ?_
    refine gx_iload_n (i := 1) hC dX3_put_24 rfl rfl ?_
    refine gx_iconst (v := 1) hC dX3_put_25 ic_1 ?_
    refine gx_zast hC dX3_put_26 (by first | exact gG.at0 | exact gG.at47 | exact gG.at48 | exact gG.at164 | exact gG.at165 | exact gG.at166 | exact gG.at213 | exact gG.at214 | exact gG.now.at | exact gG.ahd.at) (by exact bSl_in c_5) (by first | exact Or.inl rfl | exact Or.inr rfl) ?_
    refine gx_iconst (v := 1) hC dX3_put_27 ic_1 ?_
    exact gx_zret hC hQ dX3_put_28 (by first | exact Or.inl rfl | exact Or.inr rfl) (rfl) (rfl) rfl
  · rw [hx] at c_5; cases c_5
set_option maxHeartbeats 4000000 in
set_option maxRecDepth 20000 in
theorem c0_X3_put (l : Launch) (z : hZt) {n : Nat} {M : hMem} {R : hRef} (gG : GS n R) {x : Int32} (hx : bSl x = false) : hCt l z m_X3_put [.ref (z.1 + 164), .int x, .ref (z.1 + 1)] n M R n (some (.int 0)) M R := by
  refine hs_start [some (.ref (z.1 + 164)), some (.int x), some (.ref (z.1 + 1))] (by decide +kernel) rfl (by intro u hu; simp at hu; rcases hu with rfl | rfl | rfl <;> first | rfl | exact isR_cat kv_isR | exact isR_cat aref_isR) (Nat.le_of_ble_eq_true rfl) (Nat.le_refl _) (fun X hlX hN hC hQ => ?_)
  dsimp only at hC hQ
  refine gx_aload_n (i := 0) hC dX3_put_0 rfl rfl (by first | exact Or.inr ⟨_, rfl⟩ | exact Or.inl rfl | exact kv_isR | exact aref_isR) ?_
  refine gx_iload_n (i := 1) hC dX3_put_1 rfl rfl ?_
  refine gx_callV1 hC dX3_put_2 (c_X3_has _ _ gG _) kY_X3_has kV_X3_has ml_X3_22 (by first | exact gG.at0 | exact gG.at47 | exact gG.at48 | exact gG.at164 | exact gG.at165 | exact gG.at166 | exact gG.at213 | exact gG.at214 | exact gG.now.at | exact gG.ahd.at) rfl (by decide) rfl rfl rfl (by first | exact Nat.le_of_ble_eq_true rfl | (simp [Value.category, isR_cat kv_isR, isR_cat aref_isR]; done)) (Nat.le_refl _) (Nat.le_refl _) ?_
  refine gx_ifb_ne (tgt := 10) hC dX3_put_5 (by decide) (fun c_5 => ?_) (fun c_5 => ?_)
  · rw [hx] at c_5; cases c_5
  · refine gx_iconst (v := 0) hC dX3_put_8 ic_0 ?_
    exact gx_zret hC hQ dX3_put_9 (by exact Or.inl rfl) (rfl) (rfl) rfl
set_option maxHeartbeats 4000000 in
set_option maxRecDepth 20000 in
theorem c_X3_get (l : Launch) (z : hZt) {n : Nat} {M : hMem} {R : hRef} (gG : GS n R) (x : Int32) : hCt l z m_X3_get [.ref (z.1 + 164), .int x] n M R n (some (rv z.1 (if bSl x = true ∧ ¬ M 166 x.toNatClampNeg = 0 then slB x else 0))) M R := by
  refine hs_start [some (.ref (z.1 + 164)), some (.int x)] (by decide +kernel) rfl (by intro u hu; simp at hu; rcases hu with rfl | rfl <;> first | rfl | exact isR_cat kv_isR | exact isR_cat aref_isR) (Nat.le_of_ble_eq_true rfl) (Nat.le_refl _) (fun X hlX hN hC hQ => ?_)
  dsimp only at hC hQ
  refine gx_aload_n (i := 0) hC dX3_get_0 rfl rfl (by first | exact Or.inr ⟨_, rfl⟩ | exact Or.inl rfl) ?_
  refine gx_iload_n (i := 1) hC dX3_get_1 rfl rfl ?_
  refine gx_callV1 hC dX3_get_2 (c_X3_has _ _ gG _) kY_X3_has kV_X3_has ml_X3_22 (by first | exact gG.at0 | exact gG.at47 | exact gG.at48 | exact gG.at164 | exact gG.at165 | exact gG.at166 | exact gG.at213 | exact gG.at214 | exact gG.now.at | exact gG.ahd.at) rfl (by decide) rfl rfl rfl (by first | exact Nat.le_of_ble_eq_true rfl | (simp [Value.category, isR_cat kv_isR, isR_cat aref_isR]; done)) (Nat.le_refl _) (Nat.le_refl _) ?_
  refine gx_ifb_eq (tgt := 26) hC dX3_get_5 (by decide) (fun c_5 => ?_) (fun c_5 => ?_)
  · refine gx_aconst_null hC dX3_get_26 ?_
    exact gx_aret hC hQ dX3_get_27 (by first | exact Or.inr ⟨_, rfl⟩ | exact Or.inl rfl) ((by rw [if_neg (fun q => by rw [c_5] at q; exact absurd q.1 (by decide))]; rfl)) (rfl) rfl
  · refine gx_aload_n (i := 0) hC dX3_get_8 rfl rfl (by first | exact Or.inr ⟨_, rfl⟩ | exact Or.inl rfl) ?_
    refine gx_getR hC dX3_get_9 fl_X3_17 (by first | exact gG.at0 | exact gG.at47 | exact gG.at48 | exact gG.at164 | exact gG.at165 | exact gG.at166 | exact gG.at213 | exact gG.at214 | exact gG.now.at | exact gG.ahd.at) rfl (gG.q2) (by decide) ?_
    refine gx_iload_n (i := 1) hC dX3_get_12 rfl rfl ?_
    refine gx_zald hC dX3_get_13 (by first | exact gG.at0 | exact gG.at47 | exact gG.at48 | exact gG.at164 | exact gG.at165 | exact gG.at166 | exact gG.at213 | exact gG.at214 | exact gG.now.at | exact gG.ahd.at) (by exact bSl_in c_5) (rfl) (fun hz_13 => ?_)
    refine gx_if_eq (tgt := 26) hC dX3_get_14 (by decide) (fun c_14 => ?_) (fun c_14 => ?_)
    · refine gx_aconst_null hC dX3_get_26 ?_
      exact gx_aret hC hQ dX3_get_27 (by first | exact Or.inr ⟨_, rfl⟩ | exact Or.inl rfl) ((by rw [if_neg (fun q => q.2 c_14)]; rfl)) (rfl) rfl
    · refine gx_aload_n (i := 0) hC dX3_get_17 rfl rfl (by first | exact Or.inr ⟨_, rfl⟩ | exact Or.inl rfl) ?_
      refine gx_getR hC dX3_get_18 fl_X3_11 (by first | exact gG.at0 | exact gG.at47 | exact gG.at48 | exact gG.at164 | exact gG.at165 | exact gG.at166 | exact gG.at213 | exact gG.at214 | exact gG.now.at | exact gG.ahd.at) rfl (gG.q1) (by decide) ?_
      refine gx_iload_n (i := 1) hC dX3_get_21 rfl rfl ?_
      refine gx_aald hC dX3_get_22 (by first | exact gG.at0 | exact gG.at47 | exact gG.at48 | exact gG.at164 | exact gG.at165 | exact gG.at166 | exact gG.at213 | exact gG.at214 | exact gG.now.at | exact gG.ahd.at) (by first | exact Or.inl rfl | exact Or.inr rfl) (by exact bSl_in c_5) ((slB_R gG c_5).1) (by have := (slB_R gG c_5).2.2; omega) ?_
      refine gx_goto (tgt := 27) hC dX3_get_23 (by decide) ?_
      exact gx_aret hC hQ dX3_get_27 (by first | exact Or.inr ⟨_, rfl⟩ | exact Or.inl rfl) ((by rw [if_pos ⟨c_5, c_14⟩, rv_ref (by have := (slB_R gG c_5).2.2; omega)])) (rfl) rfl
