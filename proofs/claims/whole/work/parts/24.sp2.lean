def ffS (t : Nat → Int32) : Nat → (Nat → Int32) → Nat → Int32
  | 0, s => s
  | k + 1, s => if (sRd t s).1 = true then ffS t k (sRd t s).2 else (sRd t s).2
theorem ffS_t {t s : Nat → Int32} {k : Nat} (h : (sRd t s).1 = true) : ffS t (k + 1) s = ffS t k (sRd t s).2 := by rw [ffS, if_pos h]
theorem ffS_f {t s : Nat → Int32} {k : Nat} (h : (sRd t s).1 = false) : ffS t (k + 1) s = (sRd t s).2 := by rw [ffS, h]; rfl
/-- the whole text is read -/
def sFF (t s : Nat → Int32) : Nat → Int32 := ffS t 80 (sRes s)
set_option maxHeartbeats 4000000 in
set_option maxRecDepth 20000 in
theorem c_X5_findFault (l : Launch) (z : hZt) {n : Nat} {M : hMem} {R : hRef} (gG : GS n R) {s : Nat → Int32} : hCt l z m_X5_findFault [.ref (z.1 + 213)] n (putRow M 213 s) R n (some (.int (sFF (M 214) s 3))) (putRow M 213 (sFF (M 214) s)) R := by
  refine hs_start [some (.ref (z.1 + 213)), none, none] (by decide +kernel) rfl (by intro u hu; simp at hu; subst hu <;> first | rfl | exact isR_cat kv_isR | exact isR_cat aref_isR) (Nat.le_of_ble_eq_true rfl) (Nat.le_refl _) (fun X hlX hN hC hQ => ?_)
  dsimp only at hC hQ
  refine gx_aload_n (i := 0) hC dX5_findFault_0 rfl rfl (by first | exact Or.inr ⟨_, rfl⟩ | exact Or.inl rfl | exact kv_isR | exact aref_isR) ?_
  refine gx_callV0 hC dX5_findFault_1 (c_X5_restart _ _ gG) kY_X5_restart kV_X5_restart ml_X5_25 (by first | exact gG.at213 | exact gG.at214) rfl (by decide) rfl rfl rfl (by first | exact Nat.le_of_ble_eq_true rfl | (simp [Value.category, isR_cat kv_isR, isR_cat aref_isR]; done)) (Nat.le_refl _) (Nat.le_refl _) ?_
  refine gx_iconst (v := 1) hC dX5_findFault_4 ic_1 ?_
  refine gx_istore_n (i := 1) (L' := [_, _, _]) hC dX5_findFault_5 rfl (Nat.le_of_ble_eq_true rfl) rfl (fun u h9 => by first | exact Or.inl rfl | (cases h9; done) | (right; cases h9; first | rfl | exact isR_cat aref_isR | exact isR_cat kv_isR)) ?_
  refine gx_iconst (v := nI 0) hC dX5_findFault_6 ic_0n ?_
  refine gx_istore_n (i := 2) (L' := [_, _, _]) hC dX5_findFault_7 rfl (Nat.le_of_ble_eq_true rfl) rfl (fun u h9 => by first | exact Or.inl rfl | (cases h9; done) | (right; cases h9; first | rfl | exact isR_cat aref_isR | exact isR_cat kv_isR)) ?_
  have loop_8 : ∀ (k : Nat) (i : Nat) (g : Nat → Int32), 80 - i < k → i ≤ 80 → ffS (M 214) (80 - i) g = sFF (M 214) s → hG z n X n (putRow M 213 g) R 8 [some (.ref (z.1 + 213)), some (.int 1), some (.int (nI i))] [] := by
    intro k
    induction k with
    | zero => intros; omega
    | succ k ih =>
      intro i g hk1 hi hg
      refine gx_iload_n (i := 2) hC dX5_findFault_8 rfl rfl ?_
      refine gx_bipush (v := nI 80) hC dX5_findFault_9 bp_80n ?_
      refine gx_icmp_ge (tgt := 29) hC dX5_findFault_11 (by decide) (fun c_11 => ?_) (fun c_11 => ?_)
      · have d_11 := cle (by omega) (by omega) c_11
        refine gx_aload_n (i := 0) hC dX5_findFault_29 rfl rfl (by first | exact Or.inr ⟨_, rfl⟩ | exact Or.inl rfl | exact kv_isR | exact aref_isR) ?_
        refine gx_getI hC dX5_findFault_30 fl_X5_15 (by first | exact gG.at213 | exact gG.at214) (by decide) (pRs) ?_
        exact gx_iret hC hQ dX5_findFault_33 (by rw [← hg, show 80 - i = 0 by omega]; rfl) (by rw [← hg, show 80 - i = 0 by omega]; rfl) rfl
      · have d_11 := cnle (by omega) (by omega) c_11
        refine gx_iload_n (i := 1) hC dX5_findFault_14 rfl rfl ?_
        refine gx_if_eq (tgt := 29) hC dX5_findFault_15 (by decide) (fun c_15 => ?_) (fun c_15 => ?_)
        · exact absurd c_15 (by decide)
        · refine gx_aload_n (i := 0) hC dX5_findFault_18 rfl rfl (by first | exact Or.inr ⟨_, rfl⟩ | exact Or.inl rfl | exact kv_isR | exact aref_isR) ?_
          refine gx_callV1 hC dX5_findFault_19 (c_X5_readStrip _ _ gG) kY_X5_readStrip kV_X5_readStrip ml_X5_28 (by first | exact gG.at213 | exact gG.at214) rfl (by decide) rfl rfl rfl (by first | exact Nat.le_of_ble_eq_true rfl | (simp [Value.category, isR_cat kv_isR, isR_cat aref_isR]; done)) (Nat.le_refl _) (Nat.le_refl _) ?_
          refine gx_istore_n (i := 1) (L' := [_, _, _]) hC dX5_findFault_22 rfl (Nat.le_of_ble_eq_true rfl) rfl (fun u h9 => by first | exact Or.inl rfl | (cases h9; done) | (right; cases h9; first | rfl | exact isR_cat aref_isR | exact isR_cat kv_isR)) ?_
          refine gx_iinc (i := 2) (L' := [_, _, _]) hC dX5_findFault_23 rfl (ii_1 _) (Nat.le_of_ble_eq_true rfl) rfl (fun u h9 => by first | exact Or.inl rfl | (cases h9; done) | (right; cases h9; first | rfl | exact isR_cat aref_isR | exact isR_cat kv_isR)) ?_
          refine gx_goto (tgt := 8) hC dX5_findFault_26 (by decide) ?_
          cases he : (sRd (M 214) g).1 with
          | true => exact ih (i + 1) _ (by omega) (by omega) (by rw [← hg, show 80 - i = (80 - (i + 1)) + 1 by omega, ffS_t he])
          | false =>
              refine gx_iload_n (i := 2) hC dX5_findFault_8 rfl rfl ?_
              refine gx_bipush (v := nI 80) hC dX5_findFault_9 bp_80n ?_
              refine gx_icmp_ge (tgt := 29) hC dX5_findFault_11 (by decide) (fun c_11 => ?_) (fun c_11 => ?_)
              · refine gx_aload_n (i := 0) hC dX5_findFault_29 rfl rfl (by first | exact Or.inr ⟨_, rfl⟩ | exact Or.inl rfl | exact kv_isR | exact aref_isR) ?_
                refine gx_getI hC dX5_findFault_30 fl_X5_15 (by first | exact gG.at213 | exact gG.at214) (by decide) (pRs) ?_
                exact gx_iret hC hQ dX5_findFault_33 (by rw [← hg, show 80 - i = (80 - (i + 1)) + 1 by omega, ffS_f he]) (by rw [← hg, show 80 - i = (80 - (i + 1)) + 1 by omega, ffS_f he]) rfl
              · refine gx_iload_n (i := 1) hC dX5_findFault_14 rfl rfl ?_
                refine gx_if_eq (tgt := 29) hC dX5_findFault_15 (by decide) (fun c_15 => ?_) (fun c_15 => ?_)
                · refine gx_aload_n (i := 0) hC dX5_findFault_29 rfl rfl (by first | exact Or.inr ⟨_, rfl⟩ | exact Or.inl rfl | exact kv_isR | exact aref_isR) ?_
                  refine gx_getI hC dX5_findFault_30 fl_X5_15 (by first | exact gG.at213 | exact gG.at214) (by decide) (pRs) ?_
                  exact gx_iret hC hQ dX5_findFault_33 (by rw [← hg, show 80 - i = (80 - (i + 1)) + 1 by omega, ffS_f he]) (by rw [← hg, show 80 - i = (80 - (i + 1)) + 1 by omega, ffS_f he]) rfl
                · exact absurd rfl c_15
  exact loop_8 81 0 (sRes s) (by omega) (by omega) rfl
def aM (M : hMem) (ln : Nat) (x : Int32) : hMem := up2 (up2 M 214 ln x) 213 1 (nI (ln + 1))
set_option maxHeartbeats 4000000 in
set_option maxRecDepth 20000 in
theorem c_X5_add (l : Launch) (z : hZt) {n : Nat} {M : hMem} {R : hRef} (gG : GS n R) {ln : Nat} (hln : M 213 1 = nI ln) (hl : ln < 80) {x : Int32} (hx : ∃ q, q < 65536 ∧ x = nI q) : hCt l z m_X5_add [.ref (z.1 + 213), .int x] n M R n (some (.int 1)) (aM M ln x) R := by
  refine hs_start [some (.ref (z.1 + 213)), some (.int x)] (by decide +kernel) rfl (by intro u hu; simp at hu; rcases hu with rfl | rfl <;> first | rfl | exact isR_cat kv_isR | exact isR_cat aref_isR) (Nat.le_of_ble_eq_true rfl) (Nat.le_refl _) (fun X hlX hN hC hQ => ?_)
  dsimp only at hC hQ
  refine gx_aload_n (i := 0) hC dX5_add_0 rfl rfl (by first | exact Or.inr ⟨_, rfl⟩ | exact Or.inl rfl | exact kv_isR | exact aref_isR) ?_
  refine gx_getI hC dX5_add_1 fl_X5_19 (by first | exact gG.at0 | exact gG.at47 | exact gG.at48 | exact gG.at164 | exact gG.at165 | exact gG.at166 | exact gG.at213 | exact gG.at214 | exact gG.now.at | exact gG.ahd.at) (by decide) (hln) ?_
  refine gx_if_lt (tgt := 19) hC dX5_add_4 (by decide) (fun c_4 => ?_) (fun c_4 => ?_)
  · exact absurd c_4 (nI_pos (by omega))
  · refine gx_aload_n (i := 0) hC dX5_add_7 rfl rfl (by first | exact Or.inr ⟨_, rfl⟩ | exact Or.inl rfl | exact kv_isR | exact aref_isR) ?_
    refine gx_getI hC dX5_add_8 fl_X5_19 (by first | exact gG.at0 | exact gG.at47 | exact gG.at48 | exact gG.at164 | exact gG.at165 | exact gG.at166 | exact gG.at213 | exact gG.at214 | exact gG.now.at | exact gG.ahd.at) (by decide) (hln) ?_
    refine gx_aload_n (i := 0) hC dX5_add_11 rfl rfl (by first | exact Or.inr ⟨_, rfl⟩ | exact Or.inl rfl | exact kv_isR | exact aref_isR) ?_
    refine gx_getR hC dX5_add_12 fl_X5_9 (by first | exact gG.at0 | exact gG.at47 | exact gG.at48 | exact gG.at164 | exact gG.at165 | exact gG.at166 | exact gG.at213 | exact gG.at214 | exact gG.now.at | exact gG.ahd.at) rfl (gG.q5) (by decide) ?_
    refine gx_alenN hC dX5_add_15 (by first | exact gG.at0 | exact gG.at47 | exact gG.at48 | exact gG.at164 | exact gG.at165 | exact gG.at166 | exact gG.at213 | exact gG.at214 | exact gG.now.at | exact gG.ahd.at) (by decide) ?_
    refine gx_icmp_lt (tgt := 21) hC dX5_add_16 (by decide) (fun c_16 => ?_) (fun c_16 => ?_)
    · refine gx_aload_n (i := 0) hC dX5_add_21 rfl rfl (by first | exact Or.inr ⟨_, rfl⟩ | exact Or.inl rfl | exact kv_isR | exact aref_isR) ?_
      refine gx_getR hC dX5_add_22 fl_X5_9 (by first | exact gG.at0 | exact gG.at47 | exact gG.at48 | exact gG.at164 | exact gG.at165 | exact gG.at166 | exact gG.at213 | exact gG.at214 | exact gG.now.at | exact gG.ahd.at) rfl (gG.q5) (by decide) ?_
      refine gx_aload_n (i := 0) hC dX5_add_25 rfl rfl (by first | exact Or.inr ⟨_, rfl⟩ | exact Or.inl rfl | exact kv_isR | exact aref_isR) ?_
      refine gx_getI hC dX5_add_26 fl_X5_19 (by first | exact gG.at0 | exact gG.at47 | exact gG.at48 | exact gG.at164 | exact gG.at165 | exact gG.at166 | exact gG.at213 | exact gG.at214 | exact gG.now.at | exact gG.ahd.at) (by decide) (hln) ?_
      refine gx_iload_n (i := 1) hC dX5_add_29 rfl rfl ?_
      refine gx_cast hC dX5_add_30 (by first | exact gG.at0 | exact gG.at47 | exact gG.at48 | exact gG.at164 | exact gG.at165 | exact gG.at166 | exact gG.at213 | exact gG.at214 | exact gG.now.at | exact gG.ahd.at) (by exact vpn hl (by decide)) (by exact hx) ?_
      refine gx_aload_n (i := 0) hC dX5_add_31 rfl rfl (by first | exact Or.inr ⟨_, rfl⟩ | exact Or.inl rfl | exact kv_isR | exact aref_isR) ?_
      refine gx_dup hC dX5_add_32 (by first | rfl | exact isR_cat kv_isR | exact isR_cat aref_isR) ?_
      refine gx_getI hC dX5_add_33 fl_X5_19 (by first | exact gG.at0 | exact gG.at47 | exact gG.at48 | exact gG.at164 | exact gG.at165 | exact gG.at166 | exact gG.at213 | exact gG.at214 | exact gG.now.at | exact gG.ahd.at) (by decide) ((up2_off (by omega)).trans hln) ?_
      refine gx_iconst (v := 1) hC dX5_add_36 ic_1 ?_
      refine gx_iadd hC dX5_add_37 ?_
      refine gx_putI hC dX5_add_38 fl_X5_19 (by first | exact gG.at0 | exact gG.at47 | exact gG.at48 | exact gG.at164 | exact gG.at165 | exact gG.at166 | exact gG.at213 | exact gG.at214 | exact gG.now.at | exact gG.ahd.at) fn_4_1 rfl (rfl) ?_
      refine gx_iconst (v := 1) hC dX5_add_41 ic_1 ?_
      exact gx_zret hC hQ dX5_add_42 (by first | exact Or.inl rfl | exact Or.inr rfl) (rfl) (by unfold aM; rw [nI_clamp (by omega), nI_1]) rfl
    · exact absurd ((nI_ltI (by omega) (by decide)).mpr hl) c_16
set_option maxHeartbeats 4000000 in
set_option maxRecDepth 20000 in
theorem c0_X5_add (l : Launch) (z : hZt) {n : Nat} {M : hMem} {R : hRef} (gG : GS n R) (hln : M 213 1 = nI 80) (x : Int32) : hCt l z m_X5_add [.ref (z.1 + 213), .int x] n M R n (some (.int 0)) M R := by
  refine hs_start [some (.ref (z.1 + 213)), some (.int x)] (by decide +kernel) rfl (by intro u hu; simp at hu; rcases hu with rfl | rfl <;> first | rfl | exact isR_cat kv_isR | exact isR_cat aref_isR) (Nat.le_of_ble_eq_true rfl) (Nat.le_refl _) (fun X hlX hN hC hQ => ?_)
  dsimp only at hC hQ
  refine gx_aload_n (i := 0) hC dX5_add_0 rfl rfl (by first | exact Or.inr ⟨_, rfl⟩ | exact Or.inl rfl | exact kv_isR | exact aref_isR) ?_
  refine gx_getI hC dX5_add_1 fl_X5_19 (by first | exact gG.at0 | exact gG.at47 | exact gG.at48 | exact gG.at164 | exact gG.at165 | exact gG.at166 | exact gG.at213 | exact gG.at214 | exact gG.now.at | exact gG.ahd.at) (by decide) (hln) ?_
  refine gx_if_lt (tgt := 19) hC dX5_add_4 (by decide) (fun c_4 => ?_) (fun c_4 => ?_)
  · refine gx_iconst (v := 0) hC dX5_add_19 ic_0 ?_
    exact gx_zret hC hQ dX5_add_20 (by exact Or.inl rfl) (rfl) (rfl) rfl
  · refine gx_aload_n (i := 0) hC dX5_add_7 rfl rfl (by first | exact Or.inr ⟨_, rfl⟩ | exact Or.inl rfl | exact kv_isR | exact aref_isR) ?_
    refine gx_getI hC dX5_add_8 fl_X5_19 (by first | exact gG.at0 | exact gG.at47 | exact gG.at48 | exact gG.at164 | exact gG.at165 | exact gG.at166 | exact gG.at213 | exact gG.at214 | exact gG.now.at | exact gG.ahd.at) (by decide) (hln) ?_
    refine gx_aload_n (i := 0) hC dX5_add_11 rfl rfl (by first | exact Or.inr ⟨_, rfl⟩ | exact Or.inl rfl | exact kv_isR | exact aref_isR) ?_
    refine gx_getR hC dX5_add_12 fl_X5_9 (by first | exact gG.at0 | exact gG.at47 | exact gG.at48 | exact gG.at164 | exact gG.at165 | exact gG.at166 | exact gG.at213 | exact gG.at214 | exact gG.now.at | exact gG.ahd.at) rfl (gG.q5) (by decide) ?_
    refine gx_alenN hC dX5_add_15 (by first | exact gG.at0 | exact gG.at47 | exact gG.at48 | exact gG.at164 | exact gG.at165 | exact gG.at166 | exact gG.at213 | exact gG.at214 | exact gG.now.at | exact gG.ahd.at) (by decide) ?_
    refine gx_icmp_lt (tgt := 21) hC dX5_add_16 (by decide) (fun c_16 => ?_) (fun c_16 => ?_)
    · exact absurd c_16 (by decide)
    · refine gx_iconst (v := 0) hC dX5_add_19 ic_0 ?_
      exact gx_zret hC hQ dX5_add_20 (by exact Or.inl rfl) (rfl) (rfl) rfl
def D0 : hMem := fun i k => if (ty i).1 = 0 then dfl (ty i).2 k else 0
theorem sty3 (k : Nat) : sty 3 k ≠ 3 := by
  unfold sty
  split <;> first | decide | (simp_all; done)
theorem sty0 {k : Nat} (h : k ≠ 1) : sty 0 k ≠ 3 := by
  unfold sty
  split <;> first | decide | (simp_all; done)
theorem D0_S {o : Nat} (hty : ∀ j, j < 23 → ty (o + j) = tyS j) {j : Nat} (hj : j < 23) (k : Nat) : D0 (o + j) k = dS j k := by
  unfold D0
  rw [hty j hj]
  unfold tyS dS
  by_cases h0 : j = 0
  · subst h0; rw [if_pos rfl, if_pos rfl, if_pos (Or.inl rfl)]; unfold dfl; rw [if_neg (sty3 k)]
  · by_cases h1 : j = 1
    · subst h1; rfl
    · by_cases h2 : j = 2
      · subst h2; rfl
      · rw [if_neg h0, if_neg h1, if_neg h2, if_pos rfl, if_neg (by omega)]
        unfold dfl
        by_cases hk : k = 1
        · subst hk; rfl
        · rw [if_neg hk, if_neg (sty0 hk)]
theorem ty_1 : ∀ j, j < 23 → ty (1 + j) = tyS j := by decide +kernel
theorem ty_24 : ∀ j, j < 23 → ty (24 + j) = tyS j := by decide +kernel
theorem ty_h : ∀ i, i < 5 → ∀ j, j < 23 → ty (49 + 23 * i + j) = tyS j := by decide +kernel
theorem ty_s : ∀ i, i < 2 → ∀ j, j < 23 → ty (167 + 23 * i + j) = tyS j := by decide +kernel
/-- nothing is made yet from n on -/
def Frs (n : Nat) (M : hMem) (R : hRef) : Prop := ∀ i, n ≤ i → ∀ k, M i k = D0 i k ∧ R i k = 0
def iH (b : Nat) (M : hMem) : Nat → hMem
  | 0 => M
  | k + 1 => putS (iH b M k) (b + 23 * k) iS
def rH (b a : Nat) (R : hRef) : Nat → hRef
  | 0 => R
  | k + 1 => up2 (rS (rH b a R k) (b + 23 * k)) a k (b + 23 * k)
theorem iH_hi {b : Nat} {M : hMem} {k i q : Nat} (h : b + 23 * k ≤ i) : iH b M k i q = M i q := by
  induction k with
  | zero => rfl
  | succ k ih => rw [iH, pSo (by omega), ih (by omega)]
theorem rH_hi {b a : Nat} {R : hRef} {k i q : Nat} (h : b + 23 * k ≤ i) (ha : a < b) : rH b a R k i q = R i q := by
  induction k with
  | zero => rfl
  | succ k ih =>
    rw [rH, up2_off (by omega)]
    unfold rS
    rw [if_neg (by omega), if_neg (by omega), if_neg (by omega), ih (by omega)]
theorem rH_lo {b a : Nat} {R : hRef} {k i q : Nat} (h : i < b) (ha : i ≠ a) : rH b a R k i q = R i q := by
  induction k with
  | zero => rfl
  | succ k ih =>
    rw [rH, up2_off (by omega)]
    unfold rS
    rw [if_neg (by omega), if_neg (by omega), if_neg (by omega), ih]
theorem dS0 (k : Nat) : dS 0 k = dfl 3 k := by unfold dS dfl; rw [if_pos (Or.inl rfl), if_neg (sty3 k)]
set_option maxHeartbeats 4000000 in
set_option maxRecDepth 20000 in
theorem c_X1_init (l : Launch) (z : hZt) {M : hMem} {R : hRef} (hF : Frs 48 M R) : hCt l z m_X1_init [.ref (z.1 + 47)] 48 M R 164 none (iH 49 M 5) (rH 49 48 (up2 R 47 0 48) 5) := by
  refine hs_start [some (.ref (z.1 + 47)), none] (by decide +kernel) rfl (by intro u hu; simp at hu; subst hu <;> first | rfl | exact isR_cat kv_isR | exact isR_cat aref_isR) (Nat.le_of_ble_eq_true rfl) (by omega) (fun X hlX hN hC hQ => ?_)
  dsimp only at hC hQ
  refine gx_aload_n (i := 0) hC dX1_init_0 rfl rfl (by first | exact Or.inr ⟨_, rfl⟩ | exact Or.inl rfl | exact kv_isR | exact aref_isR) ?_
  refine gx_objinit hC dX1_init_1 ml_X1_3 oi_1 oi_2 (by decide) rfl ?_
  refine gx_aload_n (i := 0) hC dX1_init_4 rfl rfl (by first | exact Or.inr ⟨_, rfl⟩ | exact Or.inl rfl | exact kv_isR | exact aref_isR) ?_
  refine gx_iconst (v := nI 5) hC dX1_init_5 ic_5n ?_
  refine gx_anewarray hC dX1_init_6 (by first | exact Or.inl ⟨rfl, rfl⟩ | exact Or.inr ⟨rfl, rfl⟩) (by decide) cl_X1_9 (by omega) (fun k _ => (hF _ (by decide) k).2) (rfl) (by decide) ?_
  refine gx_putR hC dX1_init_9 fl_X1_11 (by first | exact ⟨by omega, rfl⟩ | (refine ⟨by omega, ?_⟩; exact ty_h j (by omega) 0 (by decide))) ff_1_0 hN ⟨_, _, rfl⟩ rfl (by omega) (rfl) ?_
  refine gx_iconst (v := nI 0) hC dX1_init_12 ic_0n ?_
  refine gx_istore_n (i := 1) (L' := [_, _]) hC dX1_init_13 rfl (Nat.le_of_ble_eq_true rfl) rfl (fun u h9 => by first | exact Or.inl rfl | (cases h9; done) | (right; cases h9; first | rfl | exact isR_cat aref_isR | exact isR_cat kv_isR)) ?_
  have loop_14 : ∀ (k : Nat) (j : Nat), 5 - j < k → j ≤ 5 → hG z 48 X (49 + 23 * j) (iH 49 M j) (rH 49 48 (up2 R 47 0 48) j) 14 [some (.ref (z.1 + 47)), some (.int (nI j))] [] := by
    intro k
    induction k with
    | zero => intros; omega
    | succ k ih =>
      intro j hk1 hj
      refine gx_iload_n (i := 1) hC dX1_init_14 rfl rfl ?_
      refine gx_aload_n (i := 0) hC dX1_init_15 rfl rfl (by first | exact Or.inr ⟨_, rfl⟩ | exact Or.inl rfl | exact kv_isR | exact aref_isR) ?_
      refine gx_getR hC dX1_init_16 fl_X1_11 (by first | exact ⟨by omega, rfl⟩ | (refine ⟨by omega, ?_⟩; exact ty_h j (by omega) 0 (by decide))) rfl (show _ = 48 from (rH_lo (by decide) (by decide)).trans (by simp [up2])) (by omega) ?_
      refine gx_alenN hC dX1_init_19 (by first | exact ⟨by omega, rfl⟩ | (refine ⟨by omega, ?_⟩; exact ty_h j (by omega) 0 (by decide))) (by decide) ?_
      refine gx_icmp_ge (tgt := 42) hC dX1_init_20 (by decide) (fun c_20 => ?_) (fun c_20 => ?_)
      · have d_20 := cle (by omega) (by omega) c_20
        obtain rfl : j = 5 := by omega
        exact gx_vret hC hQ dX1_init_42 (rfl) rfl
      · have d_20 := cnle (by omega) (by omega) c_20
        refine gx_aload_n (i := 0) hC dX1_init_23 rfl rfl (by first | exact Or.inr ⟨_, rfl⟩ | exact Or.inl rfl | exact kv_isR | exact aref_isR) ?_
        refine gx_getR hC dX1_init_24 fl_X1_11 (by first | exact ⟨by omega, rfl⟩ | (refine ⟨by omega, ?_⟩; exact ty_h j (by omega) 0 (by decide))) rfl (show _ = 48 from (rH_lo (by decide) (by decide)).trans (by simp [up2])) (by omega) ?_
        refine gx_iload_n (i := 1) hC dX1_init_27 rfl rfl ?_
        refine gx_new hC dX1_init_28 cL_X1_9 (ty_h j (by omega) 0 (by decide)) (by omega) (fun k hk9 => ⟨((iH_hi (Nat.le_refl _)).trans (hF _ (by omega) k).1).trans ((D0_S (ty_h j (by omega)) (show 0 < 23 by decide) k).trans (dS0 k)), (rH_hi (Nat.le_refl _) (by decide)).trans ((up2_off (by omega)).trans (hF _ (by omega) k).2)⟩) ?_
        refine gx_dup hC dX1_init_31 (by first | rfl | exact isR_cat kv_isR | exact isR_cat aref_isR) ?_
        refine gx_callI hC dX1_init_32 (d_X4_init (ty_h j (by omega)) (fun q hq k => ((iH_hi (by omega)).trans (hF _ (by omega) k).1).trans (D0_S (ty_h j (by omega)) hq k)) (fun q hq k => ((rH_hi (by omega) (by decide)).trans ((up2_off (by omega)).trans (hF _ (by omega) k).2)))) kY_X4_init kI_X4_init rfl ml_X1_17 (by decide) rfl rfl rfl (by first | exact Nat.le_of_ble_eq_true rfl | (simp [Value.category, isR_cat kv_isR, isR_cat aref_isR]; done)) (by omega) (by omega) ?_
        refine gx_aast hC dX1_init_35 (by first | exact ⟨by omega, rfl⟩ | (refine ⟨by omega, ?_⟩; exact ty_h j (by omega) 0 (by decide))) (Or.inr ⟨rfl, by omega, ty_h j (by omega) 0 (by decide)⟩) (by exact vpn (by omega) (by decide)) (by omega) ?_
        rw [nI_clamp (show j < 2 ^ 31 by omega)]
        refine gx_iinc (i := 1) (L' := [_, _]) hC dX1_init_36 rfl (ii_1 _) (Nat.le_of_ble_eq_true rfl) rfl (fun u h9 => by first | exact Or.inl rfl | (cases h9; done) | (right; cases h9; first | rfl | exact isR_cat aref_isR | exact isR_cat kv_isR)) ?_
        refine gx_goto (tgt := 14) hC dX1_init_39 (by decide) ?_
        exact ih (j + 1) (by omega) (by omega)
  exact loop_14 6 0 (by omega) (by omega)
set_option maxHeartbeats 4000000 in
set_option maxRecDepth 20000 in
theorem c_X3_init (l : Launch) (z : hZt) {M : hMem} {R : hRef} (hF : Frs 165 M R) : hCt l z m_X3_init [.ref (z.1 + 164)] 165 M R 213 none (iH 167 M 2) (rH 167 165 (up2 (up2 R 164 0 165) 164 1 166) 2) := by
  refine hs_start [some (.ref (z.1 + 164)), none] (by decide +kernel) rfl (by intro u hu; simp at hu; subst hu <;> first | rfl | exact isR_cat kv_isR | exact isR_cat aref_isR) (Nat.le_of_ble_eq_true rfl) (by omega) (fun X hlX hN hC hQ => ?_)
  dsimp only at hC hQ
  refine gx_aload_n (i := 0) hC dX3_init_0 rfl rfl (by first | exact Or.inr ⟨_, rfl⟩ | exact Or.inl rfl | exact kv_isR | exact aref_isR) ?_
  refine gx_objinit hC dX3_init_1 ml_X3_3 oi_1 oi_2 (by decide) rfl ?_
  refine gx_aload_n (i := 0) hC dX3_init_4 rfl rfl (by first | exact Or.inr ⟨_, rfl⟩ | exact Or.inl rfl | exact kv_isR | exact aref_isR) ?_
  refine gx_iconst (v := nI 2) hC dX3_init_5 ic_2n ?_
  refine gx_anewarray hC dX3_init_6 (by first | exact Or.inl ⟨rfl, rfl⟩ | exact Or.inr ⟨rfl, rfl⟩) (by decide) cl_X3_9 (by omega) (fun k _ => (hF _ (by decide) k).2) (rfl) (by decide) ?_
  refine gx_putR hC dX3_init_9 fl_X3_11 (by first | exact ⟨by omega, rfl⟩ | (refine ⟨by omega, ?_⟩; exact ty_s j (by omega) 0 (by decide))) ff_2_0 hN ⟨_, _, rfl⟩ rfl (by omega) (rfl) ?_
  refine gx_aload_n (i := 0) hC dX3_init_12 rfl rfl (by first | exact Or.inr ⟨_, rfl⟩ | exact Or.inl rfl | exact kv_isR | exact aref_isR) ?_
  refine gx_iconst (v := nI 2) hC dX3_init_13 ic_2n ?_
  refine gx_newarray hC dX3_init_14 (Or.inr (Or.inl ⟨rfl, rfl⟩)) (by decide) ac_boolean (by omega) (fun k _ => (hF 166 (by decide) k).1) (rfl) (by decide) ?_
  refine gx_putR hC dX3_init_16 fl_X3_17 (by first | exact ⟨by omega, rfl⟩ | (refine ⟨by omega, ?_⟩; exact ty_s j (by omega) 0 (by decide))) ff_2_1 hN ⟨_, _, rfl⟩ rfl (by omega) (rfl) ?_
  refine gx_iconst (v := nI 0) hC dX3_init_19 ic_0n ?_
  refine gx_istore_n (i := 1) (L' := [_, _]) hC dX3_init_20 rfl (Nat.le_of_ble_eq_true rfl) rfl (fun u h9 => by first | exact Or.inl rfl | (cases h9; done) | (right; cases h9; first | rfl | exact isR_cat aref_isR | exact isR_cat kv_isR)) ?_
  have loop_21 : ∀ (k : Nat) (j : Nat), 2 - j < k → j ≤ 2 → hG z 165 X (167 + 23 * j) (iH 167 M j) (rH 167 165 (up2 (up2 R 164 0 165) 164 1 166) j) 21 [some (.ref (z.1 + 164)), some (.int (nI j))] [] := by
    intro k
    induction k with
    | zero => intros; omega
    | succ k ih =>
      intro j hk1 hj
      refine gx_iload_n (i := 1) hC dX3_init_21 rfl rfl ?_
      refine gx_aload_n (i := 0) hC dX3_init_22 rfl rfl (by first | exact Or.inr ⟨_, rfl⟩ | exact Or.inl rfl | exact kv_isR | exact aref_isR) ?_
      refine gx_getR hC dX3_init_23 fl_X3_11 (by first | exact ⟨by omega, rfl⟩ | (refine ⟨by omega, ?_⟩; exact ty_s j (by omega) 0 (by decide))) rfl (show _ = 165 from (rH_lo (by decide) (by decide)).trans (by simp [up2])) (by omega) ?_
      refine gx_alenN hC dX3_init_26 (by first | exact ⟨by omega, rfl⟩ | (refine ⟨by omega, ?_⟩; exact ty_s j (by omega) 0 (by decide))) (by decide) ?_
      refine gx_icmp_ge (tgt := 49) hC dX3_init_27 (by decide) (fun c_27 => ?_) (fun c_27 => ?_)
      · have d_27 := cle (by omega) (by omega) c_27
        obtain rfl : j = 2 := by omega
        exact gx_vret hC hQ dX3_init_49 (rfl) rfl
      · have d_27 := cnle (by omega) (by omega) c_27
        refine gx_aload_n (i := 0) hC dX3_init_30 rfl rfl (by first | exact Or.inr ⟨_, rfl⟩ | exact Or.inl rfl | exact kv_isR | exact aref_isR) ?_
        refine gx_getR hC dX3_init_31 fl_X3_11 (by first | exact ⟨by omega, rfl⟩ | (refine ⟨by omega, ?_⟩; exact ty_s j (by omega) 0 (by decide))) rfl (show _ = 165 from (rH_lo (by decide) (by decide)).trans (by simp [up2])) (by omega) ?_
        refine gx_iload_n (i := 1) hC dX3_init_34 rfl rfl ?_
        refine gx_new hC dX3_init_35 cL_X3_9 (ty_s j (by omega) 0 (by decide)) (by omega) (fun k hk9 => ⟨((iH_hi (Nat.le_refl _)).trans (hF _ (by omega) k).1).trans ((D0_S (ty_s j (by omega)) (show 0 < 23 by decide) k).trans (dS0 k)), (rH_hi (Nat.le_refl _) (by decide)).trans ((up2_off (by omega)).trans ((up2_off (by omega)).trans (hF _ (by omega) k).2))⟩) ?_
        refine gx_dup hC dX3_init_38 (by first | rfl | exact isR_cat kv_isR | exact isR_cat aref_isR) ?_
        refine gx_callI hC dX3_init_39 (d_X4_init (ty_s j (by omega)) (fun q hq k => ((iH_hi (by omega)).trans (hF _ (by omega) k).1).trans (D0_S (ty_s j (by omega)) hq k)) (fun q hq k => ((rH_hi (by omega) (by decide)).trans ((up2_off (by omega)).trans ((up2_off (by omega)).trans (hF _ (by omega) k).2))))) kY_X4_init kI_X4_init rfl ml_X3_21 (by decide) rfl rfl rfl (by first | exact Nat.le_of_ble_eq_true rfl | (simp [Value.category, isR_cat kv_isR, isR_cat aref_isR]; done)) (by omega) (by omega) ?_
        refine gx_aast hC dX3_init_42 (by first | exact ⟨by omega, rfl⟩ | (refine ⟨by omega, ?_⟩; exact ty_s j (by omega) 0 (by decide))) (Or.inr ⟨rfl, by omega, ty_s j (by omega) 0 (by decide)⟩) (by exact vpn (by omega) (by decide)) (by omega) ?_
        rw [nI_clamp (show j < 2 ^ 31 by omega)]
        refine gx_iinc (i := 1) (L' := [_, _]) hC dX3_init_43 rfl (ii_1 _) (Nat.le_of_ble_eq_true rfl) rfl (fun u h9 => by first | exact Or.inl rfl | (cases h9; done) | (right; cases h9; first | rfl | exact isR_cat aref_isR | exact isR_cat kv_isR)) ?_
        refine gx_goto (tgt := 21) hC dX3_init_46 (by decide) ?_
        exact ih (j + 1) (by omega) (by omega)
  exact loop_21 3 0 (by omega) (by omega)
set_option maxHeartbeats 4000000 in
set_option maxRecDepth 20000 in
theorem c_X5_init (l : Launch) (z : hZt) {M : hMem} {R : hRef} (hF : Frs 214 M R) : hCt l z m_X5_init [.ref (z.1 + 213)] 214 M R 215 none (up2 M 213 3 (-6)) (up2 R 213 0 214) := by
  refine hs_start [some (.ref (z.1 + 213))] (by decide +kernel) rfl (by intro u hu; simp at hu; subst hu <;> first | rfl | exact isR_cat kv_isR | exact isR_cat aref_isR) (Nat.le_of_ble_eq_true rfl) (by omega) (fun X hlX hN hC hQ => ?_)
  dsimp only at hC hQ
  refine gx_aload_n (i := 0) hC dX5_init_0 rfl rfl (by first | exact Or.inr ⟨_, rfl⟩ | exact Or.inl rfl | exact kv_isR | exact aref_isR) ?_
  refine gx_objinit hC dX5_init_1 ml_X5_3 oi_1 oi_2 (by decide) rfl ?_
  refine gx_aload_n (i := 0) hC dX5_init_4 rfl rfl (by first | exact Or.inr ⟨_, rfl⟩ | exact Or.inl rfl | exact kv_isR | exact aref_isR) ?_
  refine gx_bipush (v := nI 80) hC dX5_init_5 bp_80n ?_
  refine gx_newarray hC dX5_init_7 (Or.inr (Or.inr ⟨rfl, rfl⟩)) (by decide) ac_char (by omega) (fun k _ => (hF 214 (by decide) k).1) (rfl) (by decide) ?_
  refine gx_putR hC dX5_init_9 fl_X5_9 (by exact ⟨by omega, rfl⟩) ff_4_0 hN ⟨_, _, rfl⟩ rfl (by omega) (rfl) ?_
  refine gx_aload_n (i := 0) hC dX5_init_12 rfl rfl (by first | exact Or.inr ⟨_, rfl⟩ | exact Or.inl rfl | exact kv_isR | exact aref_isR) ?_
  refine gx_bipush (v := -6) hC dX5_init_13 bp_m6 ?_
  refine gx_putI hC dX5_init_15 fl_X5_15 (by exact ⟨by omega, rfl⟩) fn_4_3 rfl (rfl) ?_
  exact gx_vret hC hQ dX5_init_18 (rfl) rfl
