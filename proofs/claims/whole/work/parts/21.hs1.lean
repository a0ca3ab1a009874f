/-! the shape of the stack's cells, which stays -/
def hBas (b : Nat) : Prop := ∃ i, i < 5 ∧ b = 49 + 23 * i
def GS (n : Nat) (R : hRef) : Prop := 215 ≤ n ∧ (hSt n R 1 ∧ hSt n R 24 ∧ (∀ b, hBas b → hSt n R b) ∧ hSt n R 167 ∧ hSt n R 190) ∧
  (R 0 0 = 1 ∧ R 0 1 = 24 ∧ R 0 2 = 47 ∧ R 0 3 = 164 ∧ R 0 4 = 213) ∧ (R 47 0 = 48 ∧ R 164 0 = 165 ∧ R 164 1 = 166 ∧ R 165 0 = 167 ∧ R 165 1 = 190 ∧ R 213 0 = 214) ∧
  (∀ j, j < 5 → hBas (R 48 j)) ∧ ∀ i j, i < 5 → j < 5 → R 48 i = R 48 j → i = j
theorem GS.big {n : Nat} {R : hRef} (h : GS n R) : 215 ≤ n := h.1
theorem GS.now {n : Nat} {R : hRef} (h : GS n R) : hSt n R 1 := h.2.1.1
theorem GS.ahd {n : Nat} {R : hRef} (h : GS n R) : hSt n R 24 := h.2.1.2.1
theorem GS.hb {n : Nat} {R : hRef} (h : GS n R) {b : Nat} (hb : hBas b) : hSt n R b := h.2.1.2.2.1 b hb
theorem GS.s0 {n : Nat} {R : hRef} (h : GS n R) : hSt n R 167 := h.2.1.2.2.2.1
theorem GS.s1 {n : Nat} {R : hRef} (h : GS n R) : hSt n R 190 := h.2.1.2.2.2.2
theorem GS.r0 {n : Nat} {R : hRef} (h : GS n R) : R 0 0 = 1 := h.2.2.1.1
theorem GS.r1 {n : Nat} {R : hRef} (h : GS n R) : R 0 1 = 24 := h.2.2.1.2.1
theorem GS.r2 {n : Nat} {R : hRef} (h : GS n R) : R 0 2 = 47 := h.2.2.1.2.2.1
theorem GS.r3 {n : Nat} {R : hRef} (h : GS n R) : R 0 3 = 164 := h.2.2.1.2.2.2.1
theorem GS.r4 {n : Nat} {R : hRef} (h : GS n R) : R 0 4 = 213 := h.2.2.1.2.2.2.2
theorem GS.q0 {n : Nat} {R : hRef} (h : GS n R) : R 47 0 = 48 := h.2.2.2.1.1
theorem GS.q1 {n : Nat} {R : hRef} (h : GS n R) : R 164 0 = 165 := h.2.2.2.1.2.1
theorem GS.q2 {n : Nat} {R : hRef} (h : GS n R) : R 164 1 = 166 := h.2.2.2.1.2.2.1
theorem GS.q3 {n : Nat} {R : hRef} (h : GS n R) : R 165 0 = 167 := h.2.2.2.1.2.2.2.1
theorem GS.q4 {n : Nat} {R : hRef} (h : GS n R) : R 165 1 = 190 := h.2.2.2.1.2.2.2.2.1
theorem GS.q5 {n : Nat} {R : hRef} (h : GS n R) : R 213 0 = 214 := h.2.2.2.1.2.2.2.2.2
theorem GS.bs {n : Nat} {R : hRef} (h : GS n R) {j : Nat} (hj : j < 5) : hBas (R 48 j) := h.2.2.2.2.1 j hj
theorem GS.inj {n : Nat} {R : hRef} (h : GS n R) {i j : Nat} (hi : i < 5) (hj : j < 5) (e : R 48 i = R 48 j) : i = j := h.2.2.2.2.2 i j hi hj e
theorem GS.at0 {n : Nat} {R : hRef} (h : GS n R) : hAt n 0 (0, 5) := ⟨by have := h.1; omega, by decide⟩
theorem GS.at47 {n : Nat} {R : hRef} (h : GS n R) : hAt n 47 (0, 1) := ⟨by have := h.1; omega, by decide⟩
theorem GS.at48 {n : Nat} {R : hRef} (h : GS n R) : hAt n 48 (5, 5) := ⟨by have := h.1; omega, by decide⟩
theorem GS.at164 {n : Nat} {R : hRef} (h : GS n R) : hAt n 164 (0, 2) := ⟨by have := h.1; omega, by decide⟩
theorem GS.at165 {n : Nat} {R : hRef} (h : GS n R) : hAt n 165 (5, 2) := ⟨by have := h.1; omega, by decide⟩
theorem GS.at166 {n : Nat} {R : hRef} (h : GS n R) : hAt n 166 (2, 2) := ⟨by have := h.1; omega, by decide⟩
theorem GS.at213 {n : Nat} {R : hRef} (h : GS n R) : hAt n 213 (0, 4) := ⟨by have := h.1; omega, by decide⟩
theorem GS.at214 {n : Nat} {R : hRef} (h : GS n R) : hAt n 214 (3, 80) := ⟨by have := h.1; omega, by decide⟩
theorem hBas.ge {b : Nat} (h : hBas b) : 49 ≤ b ∧ b + 23 ≤ 164 := by
  obtain ⟨i, hi, rfl⟩ := h
  omega
def rotR (R : hRef) : hRef := fun b k => if b = 48 ∧ k < 4 then R 48 (k + 1) else if b = 48 ∧ k = 4 then R 48 0 else R b k
/-- the first one has gone i places on -/
def rotL (R : hRef) (i : Nat) : hRef := fun b k => if b = 48 ∧ k < i then R 48 (k + 1) else if b = 48 ∧ k = i then R 48 0 else R b k
theorem rotL_s {R : hRef} {i : Nat} : up2 (up2 (rotL R i) 48 i (R 48 (i + 1))) 48 (i + 1) (R 48 0) = rotL R (i + 1) := by
  funext b q
  unfold up2 rotL
  by_cases hb : b = 48
  · subst hb
    rcases (show q < i ∨ q = i ∨ q = i + 1 ∨ i + 1 < q by omega) with h | h | h | h
    · rw [if_neg (by omega), if_neg (by omega), if_pos (by omega), if_pos (by omega)]
    · subst h
      rw [if_neg (by omega), if_pos (by omega), if_pos (by omega)]
    · rw [if_pos (by omega), if_neg (by omega), if_pos (by omega)]
    · rw [if_neg (by omega), if_neg (by omega), if_neg (by omega), if_neg (by omega), if_neg (by omega), if_neg (by omega)]
  · simp [hb]
theorem rotL_0 {R : hRef} : rotL R 0 = R := by
  funext b q
  unfold rotL
  by_cases hb : b = 48 ∧ q = 0
  · obtain ⟨rfl, rfl⟩ := hb
    simp
  · rw [if_neg (by omega), if_neg hb]
theorem rotL_4 {R : hRef} : rotL R 4 = rotR R := rfl
theorem rotR_off {R : hRef} {b k : Nat} (h : b ≠ 48) : rotR R b k = R b k := by simp [rotR, h]
theorem rotR_48 {R : hRef} {j : Nat} (hj : j < 5) : rotR R 48 j = R 48 (if j = 4 then 0 else j + 1) := by
  unfold rotR
  by_cases h : j = 4
  · simp [h]
  · rw [if_pos ⟨rfl, by omega⟩, if_neg h]
theorem hSt_R {n : Nat} {R R' : hRef} {o : Nat} (h : hSt n R o) (h0 : ∀ k, R' o k = R o k) (h1 : ∀ k, R' (o + 1) k = R (o + 1) k) : hSt n R' o :=
  ⟨h.1, h.at, h.aa, h.ah, fun j hj => h.ac hj, (h0 0).trans h.ra, (h0 1).trans h.rh, fun j hj => (h1 j).trans (h.rc hj)⟩
theorem GS.rot {n : Nat} {R : hRef} (h : GS n R) : GS n (rotR R) := by
  have e : ∀ b, b ≠ 48 → ∀ k, rotR R b k = R b k := fun b hb k => rotR_off hb
  refine ⟨h.big, ⟨hSt_R h.now (e _ (by decide)) (e _ (by decide)), hSt_R h.ahd (e _ (by decide)) (e _ (by decide)), fun b hb => hSt_R (h.hb hb) (e _ (by have := hb.ge; omega)) (e _ (by have := hb.ge; omega)), hSt_R h.s0 (e _ (by decide)) (e _ (by decide)), hSt_R h.s1 (e _ (by decide)) (e _ (by decide))⟩,
    ⟨(e _ (by decide) _).trans h.r0, (e _ (by decide) _).trans h.r1, (e _ (by decide) _).trans h.r2, (e _ (by decide) _).trans h.r3, (e _ (by decide) _).trans h.r4⟩,
    ⟨(e _ (by decide) _).trans h.q0, (e _ (by decide) _).trans h.q1, (e _ (by decide) _).trans h.q2, (e _ (by decide) _).trans h.q3, (e _ (by decide) _).trans h.q4, (e _ (by decide) _).trans h.q5⟩, fun j hj => ?_, fun i j hi hj q => ?_⟩
  · rw [rotR_48 hj]
    exact h.bs (by split <;> omega)
  · rw [rotR_48 hi, rotR_48 hj] at q
    have := h.inj (by split <;> omega) (by split <;> omega) q
    split at this <;> split at this <;> omega
set_option maxHeartbeats 4000000 in
set_option maxRecDepth 20000 in
theorem c_X2_of (l : Launch) (z : hZt) {n : Nat} {M : hMem} {R : hRef} (x : Int32) : hCt l z m_X2_of [.int x] n M R n (some (kv z.2.1 x)) M R := by
  refine hs_start [some (.int x)] (by decide +kernel) rfl (by intro u hu; simp at hu; subst hu <;> first | rfl | exact isR_cat kv_isR | exact isR_cat aref_isR) (Nat.le_of_ble_eq_true rfl) (Nat.le_refl _) (fun X hlX hN hC hQ => ?_)
  dsimp only at hC hQ
  refine gx_iload_n (i := 0) hC dX2_of_0 rfl rfl ?_
  refine gx_table hC dX2_of_1 (by decide) (fun c_1 tg ht => ?_) (fun j f hf hj tg ht => ?_) (by decide)
  · obtain rfl : tg = 40 := by omega
    refine gx_aconst_null hC dX2_of_40 ?_
    exact gx_aret hC hQ dX2_of_41 (by first | exact kv_isR | exact Or.inl rfl) (by rw [kv_none (by rintro (q | q | q) <;> subst q <;> revert c_1 <;> decide)]) (rfl) rfl
  · match j, hf with
    | 0, hf =>
      obtain rfl : tg = 28 := by simp at hf; omega
      refine gx_getstatic hC dX2_of_28 0 (by decide) fl_X2_3 ?_
      exact gx_aret hC hQ dX2_of_31 (by first | exact kv_isR | exact Or.inl rfl) (by rw [show x = 0 from Int32.toInt_inj.mp (by rw [hj]; rfl)]; rfl) (rfl) rfl
    | 1, hf =>
      obtain rfl : tg = 32 := by simp at hf; omega
      refine gx_getstatic hC dX2_of_32 1 (by decide) fl_X2_7 ?_
      exact gx_aret hC hQ dX2_of_35 (by first | exact kv_isR | exact Or.inl rfl) (by rw [show x = 1 from Int32.toInt_inj.mp (by rw [hj]; rfl)]; rfl) (rfl) rfl
    | 2, hf =>
      obtain rfl : tg = 36 := by simp at hf; omega
      refine gx_getstatic hC dX2_of_36 2 (by decide) fl_X2_10 ?_
      exact gx_aret hC hQ dX2_of_39 (by first | exact kv_isR | exact Or.inl rfl) (by rw [show x = 2 from Int32.toInt_inj.mp (by rw [hj]; rfl)]; rfl) (rfl) rfl
    | q + 3, hf => simp at hf
set_option maxHeartbeats 4000000 in
set_option maxRecDepth 20000 in
theorem c_X1_dropOldest (l : Launch) (z : hZt) {n : Nat} {M : hMem} {R : hRef} (gG : GS n R) : hCt l z m_X1_dropOldest [.ref (z.1 + 47)] n M R n none (up2 M 47 1 (nI 4)) (rotR R) := by
  refine hs_start [some (.ref (z.1 + 47)), none, none] (by decide +kernel) rfl (by intro u hu; simp at hu; subst hu <;> first | rfl | exact isR_cat kv_isR | exact isR_cat aref_isR) (Nat.le_of_ble_eq_true rfl) (Nat.le_refl _) (fun X hlX hN hC hQ => ?_)
  dsimp only at hC hQ
  refine gx_iconst (v := nI 1) hC dX1_dropOldest_0 ic_1n ?_
  refine gx_istore_n (i := 1) (L' := [_, _, _]) hC dX1_dropOldest_1 rfl (Nat.le_of_ble_eq_true rfl) rfl (fun u h9 => by first | exact Or.inl rfl | (cases h9; done) | (right; cases h9; first | rfl | exact isR_cat aref_isR | exact isR_cat kv_isR)) ?_
  have loop_2 : ∀ (k : Nat) (i : Nat) (w : Option Value), 4 - i < k → i ≤ 4 → hG z n X n M (rotL R i) 2 [some (.ref (z.1 + 47)), some (.int (nI (i + 1))), w] [] := by
    intro k
    induction k with
    | zero => intros; omega
    | succ k ih =>
      intro i w hk1 hi
      refine gx_iload_n (i := 1) hC dX1_dropOldest_2 rfl rfl ?_
      refine gx_aload_n (i := 0) hC dX1_dropOldest_3 rfl rfl (by first | exact Or.inr ⟨_, rfl⟩ | exact Or.inl rfl | exact kv_isR | exact aref_isR) ?_
      refine gx_getR hC dX1_dropOldest_4 fl_X1_11 (by first | exact gG.at0 | exact gG.at47 | exact gG.at48 | exact gG.at164 | exact gG.at165 | exact gG.at166 | exact gG.at213 | exact gG.at214 | exact gG.now.at | exact gG.ahd.at) rfl (show _ = 48 from by simp [rotL, gG.q0]) (by decide) ?_
      refine gx_alenN hC dX1_dropOldest_7 (by first | exact gG.at0 | exact gG.at47 | exact gG.at48 | exact gG.at164 | exact gG.at165 | exact gG.at166 | exact gG.at213 | exact gG.at214 | exact gG.now.at | exact gG.ahd.at) (by decide) ?_
      refine gx_icmp_ge (tgt := 47) hC dX1_dropOldest_8 (by decide) (fun c_8 => ?_) (fun c_8 => ?_)
      · have d_8 := cle (by omega) (by omega) c_8
        obtain rfl : i = 4 := by omega
        refine gx_aload_n (i := 0) hC dX1_dropOldest_47 rfl rfl (by first | exact Or.inr ⟨_, rfl⟩ | exact Or.inl rfl | exact kv_isR | exact aref_isR) ?_
        refine gx_aload_n (i := 0) hC dX1_dropOldest_48 rfl rfl (by first | exact Or.inr ⟨_, rfl⟩ | exact Or.inl rfl | exact kv_isR | exact aref_isR) ?_
        refine gx_getR hC dX1_dropOldest_49 fl_X1_11 (by first | exact gG.at0 | exact gG.at47 | exact gG.at48 | exact gG.at164 | exact gG.at165 | exact gG.at166 | exact gG.at213 | exact gG.at214 | exact gG.now.at | exact gG.ahd.at) rfl (show _ = 48 from by simp [rotL, gG.q0]) (by decide) ?_
        refine gx_alenN hC dX1_dropOldest_52 (by first | exact gG.at0 | exact gG.at47 | exact gG.at48 | exact gG.at164 | exact gG.at165 | exact gG.at166 | exact gG.at213 | exact gG.at214 | exact gG.now.at | exact gG.ahd.at) (by decide) ?_
        refine gx_iconst (v := 1) hC dX1_dropOldest_53 ic_1 ?_
        refine gx_isub hC dX1_dropOldest_54 ?_
        rw [show nI 5 - 1 = nI 4 from rfl]
        rw [rotL_4]
        refine gx_putI hC dX1_dropOldest_55 fl_X1_18 (by first | exact gG.at0 | exact gG.at47 | exact gG.at48 | exact gG.at164 | exact gG.at165 | exact gG.at166 | exact gG.at213 | exact gG.at214 | exact gG.now.at | exact gG.ahd.at) fn_1_1 rfl (rfl) ?_
        exact gx_vret hC hQ dX1_dropOldest_58 (rfl) rfl
      · have d_8 := cnle (by omega) (by omega) c_8
        refine gx_aload_n (i := 0) hC dX1_dropOldest_11 rfl rfl (by first | exact Or.inr ⟨_, rfl⟩ | exact Or.inl rfl | exact kv_isR | exact aref_isR) ?_
        refine gx_getR hC dX1_dropOldest_12 fl_X1_11 (by first | exact gG.at0 | exact gG.at47 | exact gG.at48 | exact gG.at164 | exact gG.at165 | exact gG.at166 | exact gG.at213 | exact gG.at214 | exact gG.now.at | exact gG.ahd.at) rfl (show _ = 48 from by simp [rotL, gG.q0]) (by decide) ?_
        refine gx_iload_n (i := 1) hC dX1_dropOldest_15 rfl rfl ?_
        refine gx_iconst (v := 1) hC dX1_dropOldest_16 ic_1 ?_
        refine gx_isub hC dX1_dropOldest_17 ?_
        rw [nI_p1]
        refine gx_aald hC dX1_dropOldest_18 (by first | exact gG.at0 | exact gG.at47 | exact gG.at48 | exact gG.at164 | exact gG.at165 | exact gG.at166 | exact gG.at213 | exact gG.at214 | exact gG.now.at | exact gG.ahd.at) (by first | exact Or.inl rfl | exact Or.inr rfl) (by exact vpn (by omega) (by decide)) (show _ = R 48 0 from by rw [nI_clamp (by omega)]; simp [rotL]) (by have := (gG.bs (show 0 < 5 by decide)).ge; omega) ?_
        refine gx_astore_n (i := 2) (L' := [_, _, _]) hC dX1_dropOldest_19 rfl (Nat.le_of_ble_eq_true rfl) rfl (fun u h9 => by first | exact Or.inl rfl | (cases h9; done) | (right; cases h9; first | rfl | exact isR_cat aref_isR | exact isR_cat kv_isR)) (by first | exact Or.inr ⟨_, rfl⟩ | exact Or.inl rfl | exact kv_isR | exact aref_isR) ?_
        refine gx_aload_n (i := 0) hC dX1_dropOldest_20 rfl rfl (by first | exact Or.inr ⟨_, rfl⟩ | exact Or.inl rfl | exact kv_isR | exact aref_isR) ?_
        refine gx_getR hC dX1_dropOldest_21 fl_X1_11 (by first | exact gG.at0 | exact gG.at47 | exact gG.at48 | exact gG.at164 | exact gG.at165 | exact gG.at166 | exact gG.at213 | exact gG.at214 | exact gG.now.at | exact gG.ahd.at) rfl (show _ = 48 from by simp [rotL, gG.q0]) (by decide) ?_
        refine gx_iload_n (i := 1) hC dX1_dropOldest_24 rfl rfl ?_
        refine gx_iconst (v := 1) hC dX1_dropOldest_25 ic_1 ?_
        refine gx_isub hC dX1_dropOldest_26 ?_
        rw [nI_p1]
        refine gx_aload_n (i := 0) hC dX1_dropOldest_27 rfl rfl (by first | exact Or.inr ⟨_, rfl⟩ | exact Or.inl rfl | exact kv_isR | exact aref_isR) ?_
        refine gx_getR hC dX1_dropOldest_28 fl_X1_11 (by first | exact gG.at0 | exact gG.at47 | exact gG.at48 | exact gG.at164 | exact gG.at165 | exact gG.at166 | exact gG.at213 | exact gG.at214 | exact gG.now.at | exact gG.ahd.at) rfl (show _ = 48 from by simp [rotL, gG.q0]) (by decide) ?_
        refine gx_iload_n (i := 1) hC dX1_dropOldest_31 rfl rfl ?_
        refine gx_aald hC dX1_dropOldest_32 (by first | exact gG.at0 | exact gG.at47 | exact gG.at48 | exact gG.at164 | exact gG.at165 | exact gG.at166 | exact gG.at213 | exact gG.at214 | exact gG.now.at | exact gG.ahd.at) (by first | exact Or.inl rfl | exact Or.inr rfl) (by exact vpn (by omega) (by decide)) (show _ = R 48 (i + 1) from by rw [nI_clamp (by omega)]; simp [rotL, show ¬ i + 1 < i by omega]) (by have := (gG.bs (show i + 1 < 5 by omega)).ge; omega) ?_
        refine gx_aast hC dX1_dropOldest_33 (by first | exact gG.at0 | exact gG.at47 | exact gG.at48 | exact gG.at164 | exact gG.at165 | exact gG.at166 | exact gG.at213 | exact gG.at214 | exact gG.now.at | exact gG.ahd.at) (Or.inr ⟨rfl, (gG.hb (gG.bs (by omega))).at⟩) (by exact vpn (by omega) (by decide)) (by have := (gG.bs (show i + 1 < 5 by omega)).ge; omega) ?_
        refine gx_aload_n (i := 0) hC dX1_dropOldest_34 rfl rfl (by first | exact Or.inr ⟨_, rfl⟩ | exact Or.inl rfl | exact kv_isR | exact aref_isR) ?_
        refine gx_getR hC dX1_dropOldest_35 fl_X1_11 (by first | exact gG.at0 | exact gG.at47 | exact gG.at48 | exact gG.at164 | exact gG.at165 | exact gG.at166 | exact gG.at213 | exact gG.at214 | exact gG.now.at | exact gG.ahd.at) rfl (show _ = 48 from by simp [up2, rotL, gG.q0]) (by decide) ?_
        refine gx_iload_n (i := 1) hC dX1_dropOldest_38 rfl rfl ?_
        refine gx_aload_n (i := 2) hC dX1_dropOldest_39 rfl rfl (by first | exact Or.inr ⟨_, rfl⟩ | exact Or.inl rfl | exact kv_isR | exact aref_isR) ?_
        refine gx_aast hC dX1_dropOldest_40 (by first | exact gG.at0 | exact gG.at47 | exact gG.at48 | exact gG.at164 | exact gG.at165 | exact gG.at166 | exact gG.at213 | exact gG.at214 | exact gG.now.at | exact gG.ahd.at) (Or.inr ⟨rfl, (gG.hb (gG.bs (by decide))).at⟩) (by exact vpn (by omega) (by decide)) (by have := (gG.bs (show 0 < 5 by decide)).ge; omega) ?_
        rw [nI_clamp (show i < 2 ^ 31 by omega), nI_clamp (show i + 1 < 2 ^ 31 by omega), rotL_s]
        refine gx_iinc (i := 1) (L' := [_, _, _]) hC dX1_dropOldest_41 rfl (ii_1 _) (Nat.le_of_ble_eq_true rfl) rfl (fun u h9 => by first | exact Or.inl rfl | (cases h9; done) | (right; cases h9; first | rfl | exact isR_cat aref_isR | exact isR_cat kv_isR)) ?_
        refine gx_goto (tgt := 2) hC dX1_dropOldest_44 (by decide) ?_
        exact ih (i + 1) _ (by omega) (by omega)
  have h9 := fun w => loop_2 5 0 w (by omega) (by omega)
  rw [rotL_0] at h9
  exact h9 _
theorem getS_up {M : hMem} {o a k : Nat} {x : Int32} (h : a < o ∨ o + 23 ≤ a) : getS (up2 M a k x) o = getS M o := by
  funext i q
  unfold getS
  split
  · exact up2_off (by omega)
  · rfl
theorem getS_put {M f : hMem} {o p : Nat} (h : p + 23 ≤ o ∨ o + 23 ≤ p) : getS (putS M o f) p = getS M p := by
  funext i q
  unfold getS
  split
  · exact pSo (by omega)
  · rfl
theorem getS_at {M : hMem} {o i k : Nat} (h : i < 23) : getS M o i k = M (o + i) k := by unfold getS; rw [if_pos h]
theorem getS_0 {M : hMem} {o k : Nat} : getS M o 0 k = M o k := getS_at (by decide)
theorem putS_up {M f : hMem} {o a k : Nat} {x : Int32} (h : a < o ∨ o + 23 ≤ a) : up2 (putS M o f) a k x = putS (up2 M a k x) o f := by
  funext i q
  simp only [up2, putS]
  (repeat' split) <;> first | rfl | (exfalso; omega)
theorem up2_up {M : hMem} {a k : Nat} {x y : Int32} : up2 (up2 M a k x) a k y = up2 M a k y := by
  funext i q
  unfold up2
  split <;> rfl
theorem d_X4_copyFrom {l : Launch} {z : hZt} {n : Nat} {M : hMem} {R : hRef} {o p c : Nat} (hS : hSt n R o) (hT : hSt n R p) (hs : p + 23 ≤ o ∨ o + 23 ≤ p) (hcg : M p 2 = nI c) (hc : c ≤ 20) :
    hCt l z m_X4_copyFrom [.ref (z.1 + o), .ref (z.1 + p)] n M R n none (putS M o (sCopy (getS M o) (getS M p) c)) R := by
  have h := c_X4_copyFrom l z (M := M) (f := getS M o) hS hT hs (g := getS M p) (fun i hi k => getS_at hi) (getS_0.trans hcg) hc
  rw [putS_get] at h
  exact h
/-- the history takes the state at p -/
def pB (R : hRef) (s : Nat) : Nat := if s < 5 then R 48 s else R 48 0
def pR (R : hRef) (s : Nat) : hRef := if s < 5 then R else rotR R
def pM (M : hMem) (R : hRef) (s c : Nat) : hMem := up2 (putS M (pB R s) (sCopy (getS M (pB R s)) (getS M 1) c)) 47 1 (nI (if s < 5 then s + 1 else 5))
theorem pB_bas {n : Nat} {R : hRef} (h : GS n R) (s : Nat) : hBas (pB R s) := by
  unfold pB
  split
  · next hs => exact h.bs hs
  · exact h.bs (by decide)
theorem GSpR {n : Nat} {R : hRef} (h : GS n R) (s : Nat) : GS n (pR R s) := by
  unfold pR
  split
  · exact h
  · exact h.rot
set_option maxHeartbeats 4000000 in
set_option maxRecDepth 20000 in
theorem c_X1_push (l : Launch) (z : hZt) {n : Nat} {M : hMem} {R : hRef} (gG : GS n R) {s c : Nat} (hs : M 47 1 = nI s) (hs5 : s ≤ 5) (hc : M 1 2 = nI c) (hc20 : c ≤ 20) : hCt l z m_X1_push [.ref (z.1 + 47), .ref (z.1 + 1)] n M R n none (pM M R s c) (pR R s) := by
  refine hs_start [some (.ref (z.1 + 47)), some (.ref (z.1 + 1))] (by decide +kernel) rfl (by intro u hu; simp at hu; rcases hu with rfl | rfl <;> first | rfl | exact isR_cat kv_isR | exact isR_cat aref_isR) (Nat.le_of_ble_eq_true rfl) (Nat.le_refl _) (fun X hlX hN hC hQ => ?_)
  dsimp only at hC hQ
  have join : ∀ (R1 : hRef) (t : Nat), GS n R1 → t < 5 → pR R s = R1 → pB R s = R1 48 t → (if s < 5 then s + 1 else 5) = t + 1 → hG z n X n (up2 M 47 1 (nI t)) R1 16 [some (.ref (z.1 + 47)), some (.ref (z.1 + 1))] [] := by
    intro R1 t gG1 ht e1 e2 e3
    refine gx_aload_n (i := 0) hC dX1_push_16 rfl rfl (by first | exact Or.inr ⟨_, rfl⟩ | exact Or.inl rfl | exact kv_isR | exact aref_isR) ?_
    refine gx_getI hC dX1_push_17 fl_X1_18 (by first | exact gG1.at0 | exact gG1.at47 | exact gG1.at48 | exact gG1.at164 | exact gG1.at165 | exact gG1.at166 | exact gG1.at213 | exact gG1.at214 | exact gG1.now.at | exact gG1.ahd.at) (by decide) (up2_same) ?_
    refine gx_if_lt (tgt := 58) hC dX1_push_20 (by decide) (fun c_20 => ?_) (fun c_20 => ?_)
    · exact absurd c_20 (by rw [Int32.lt_iff_toInt_lt, nI_toInt (by omega), Int32.toInt_zero]; omega)
    · refine gx_aload_n (i := 0) hC dX1_push_23 rfl rfl (by first | exact Or.inr ⟨_, rfl⟩ | exact Or.inl rfl | exact kv_isR | exact aref_isR) ?_
      refine gx_getI hC dX1_push_24 fl_X1_18 (by first | exact gG1.at0 | exact gG1.at47 | exact gG1.at48 | exact gG1.at164 | exact gG1.at165 | exact gG1.at166 | exact gG1.at213 | exact gG1.at214 | exact gG1.now.at | exact gG1.ahd.at) (by decide) (up2_same) ?_
      refine gx_aload_n (i := 0) hC dX1_push_27 rfl rfl (by first | exact Or.inr ⟨_, rfl⟩ | exact Or.inl rfl | exact kv_isR | exact aref_isR) ?_
      refine gx_getR hC dX1_push_28 fl_X1_11 (by first | exact gG1.at0 | exact gG1.at47 | exact gG1.at48 | exact gG1.at164 | exact gG1.at165 | exact gG1.at166 | exact gG1.at213 | exact gG1.at214 | exact gG1.now.at | exact gG1.ahd.at) rfl (gG1.q0) (by decide) ?_
      refine gx_alenN hC dX1_push_31 (by first | exact gG1.at0 | exact gG1.at47 | exact gG1.at48 | exact gG1.at164 | exact gG1.at165 | exact gG1.at166 | exact gG1.at213 | exact gG1.at214 | exact gG1.now.at | exact gG1.ahd.at) (by decide) ?_
      refine gx_icmp_ge (tgt := 58) hC dX1_push_32 (by decide) (fun c_32 => ?_) (fun c_32 => ?_)
      · have d_32 := cle (by omega) (by omega) c_32
        exfalso
        omega
      · refine gx_aload_n (i := 0) hC dX1_push_35 rfl rfl (by first | exact Or.inr ⟨_, rfl⟩ | exact Or.inl rfl | exact kv_isR | exact aref_isR) ?_
        refine gx_getR hC dX1_push_36 fl_X1_11 (by first | exact gG1.at0 | exact gG1.at47 | exact gG1.at48 | exact gG1.at164 | exact gG1.at165 | exact gG1.at166 | exact gG1.at213 | exact gG1.at214 | exact gG1.now.at | exact gG1.ahd.at) rfl (gG1.q0) (by decide) ?_
        refine gx_aload_n (i := 0) hC dX1_push_39 rfl rfl (by first | exact Or.inr ⟨_, rfl⟩ | exact Or.inl rfl | exact kv_isR | exact aref_isR) ?_
        refine gx_getI hC dX1_push_40 fl_X1_18 (by first | exact gG1.at0 | exact gG1.at47 | exact gG1.at48 | exact gG1.at164 | exact gG1.at165 | exact gG1.at166 | exact gG1.at213 | exact gG1.at214 | exact gG1.now.at | exact gG1.ahd.at) (by decide) (up2_same) ?_
        refine gx_aald hC dX1_push_43 (by first | exact gG1.at0 | exact gG1.at47 | exact gG1.at48 | exact gG1.at164 | exact gG1.at165 | exact gG1.at166 | exact gG1.at213 | exact gG1.at214 | exact gG1.now.at | exact gG1.ahd.at) (by first | exact Or.inl rfl | exact Or.inr rfl) (by exact vpn ht (by decide)) (show _ = R1 48 t from by rw [nI_clamp (by omega)]) (by have := (gG1.bs ht).ge; omega) ?_
        refine gx_aload_n (i := 1) hC dX1_push_44 rfl rfl (by first | exact Or.inr ⟨_, rfl⟩ | exact Or.inl rfl | exact kv_isR | exact aref_isR) ?_
        refine gx_callV0 hC dX1_push_45 (d_X4_copyFrom (gG1.hb (gG1.bs ht)) gG1.now (Or.inl (by have := (gG1.bs ht).ge; omega)) (show up2 M 47 1 (nI t) 1 2 = nI c from (up2_off (by decide)).trans hc) hc20) kY_X4_copyFrom kV_X4_copyFrom ml_X1_25 (by exact (gG1.hb (gG1.bs ht)).at) rfl (by decide) rfl rfl rfl (by first | exact Nat.le_of_ble_eq_true rfl | (simp [Value.category, isR_cat kv_isR, isR_cat aref_isR]; done)) (Nat.le_refl _) (Nat.le_refl _) ?_
        refine gx_aload_n (i := 0) hC dX1_push_48 rfl rfl (by first | exact Or.inr ⟨_, rfl⟩ | exact Or.inl rfl | exact kv_isR | exact aref_isR) ?_
        refine gx_dup hC dX1_push_49 (by first | rfl | exact isR_cat kv_isR | exact isR_cat aref_isR) ?_
        refine gx_getI hC dX1_push_50 fl_X1_18 (by first | exact gG1.at0 | exact gG1.at47 | exact gG1.at48 | exact gG1.at164 | exact gG1.at165 | exact gG1.at166 | exact gG1.at213 | exact gG1.at214 | exact gG1.now.at | exact gG1.ahd.at) (by decide) (show _ = nI t from (pSo (Or.inl (by have := (gG1.bs ht).ge; omega))).trans up2_same) ?_
        refine gx_iconst (v := 1) hC dX1_push_53 ic_1 ?_
        refine gx_iadd hC dX1_push_54 ?_
        refine gx_putI hC dX1_push_55 fl_X1_18 (by first | exact gG1.at0 | exact gG1.at47 | exact gG1.at48 | exact gG1.at164 | exact gG1.at165 | exact gG1.at166 | exact gG1.at213 | exact gG1.at214 | exact gG1.now.at | exact gG1.ahd.at) fn_1_1 rfl (rfl) ?_
        exact gx_vret hC hQ dX1_push_58 (by
      unfold pM
      rw [e2, e3, nI_1]
      have hb := (gG1.bs ht).ge
      rw [getS_up (by omega), getS_up (by omega), ← putS_up (by omega), up2_up]) e1.symm
  refine gx_aload_n (i := 0) hC dX1_push_0 rfl rfl (by first | exact Or.inr ⟨_, rfl⟩ | exact Or.inl rfl | exact kv_isR | exact aref_isR) ?_
  refine gx_getI hC dX1_push_1 fl_X1_18 (by first | exact gG.at0 | exact gG.at47 | exact gG.at48 | exact gG.at164 | exact gG.at165 | exact gG.at166 | exact gG.at213 | exact gG.at214 | exact gG.now.at | exact gG.ahd.at) (by decide) (hs) ?_
  refine gx_aload_n (i := 0) hC dX1_push_4 rfl rfl (by first | exact Or.inr ⟨_, rfl⟩ | exact Or.inl rfl | exact kv_isR | exact aref_isR) ?_
  refine gx_getR hC dX1_push_5 fl_X1_11 (by first | exact gG.at0 | exact gG.at47 | exact gG.at48 | exact gG.at164 | exact gG.at165 | exact gG.at166 | exact gG.at213 | exact gG.at214 | exact gG.now.at | exact gG.ahd.at) rfl (gG.q0) (by decide) ?_
  refine gx_alenN hC dX1_push_8 (by first | exact gG.at0 | exact gG.at47 | exact gG.at48 | exact gG.at164 | exact gG.at165 | exact gG.at166 | exact gG.at213 | exact gG.at214 | exact gG.now.at | exact gG.ahd.at) (by decide) ?_
  refine gx_icmp_lt (tgt := 16) hC dX1_push_9 (by decide) (fun c_9 => ?_) (fun c_9 => ?_)
  · have d_9 := (nI_ltI (by omega) (by decide)).mp c_9
    have h9 := join R s gG d_9 (if_pos d_9) (if_pos d_9) (if_pos d_9)
    rw [← hs, up2_self] at h9
    exact h9
  · refine gx_aload_n (i := 0) hC dX1_push_12 rfl rfl (by first | exact Or.inr ⟨_, rfl⟩ | exact Or.inl rfl | exact kv_isR | exact aref_isR) ?_
    refine gx_callV0 hC dX1_push_13 (c_X1_dropOldest _ _ gG) kY_X1_dropOldest kV_X1_dropOldest ml_X1_22 (by first | exact gG.at0 | exact gG.at47 | exact gG.at48 | exact gG.at164 | exact gG.at165 | exact gG.at166 | exact gG.at213 | exact gG.at214 | exact gG.now.at | exact gG.ahd.at) rfl (by decide) rfl rfl rfl (by first | exact Nat.le_of_ble_eq_true rfl | (simp [Value.category, isR_cat kv_isR, isR_cat aref_isR]; done)) (Nat.le_refl _) (Nat.le_refl _) ?_
    have d_9 := mt (nI_ltI (show s < 2 ^ 31 by omega) (show 5 < 2 ^ 31 by decide)).mpr c_9
    exact join (rotR R) 4 gG.rot (by decide) (if_neg d_9) (by unfold pB; rw [if_neg d_9, rotR_48 (by decide)]; rfl) (if_neg d_9)
