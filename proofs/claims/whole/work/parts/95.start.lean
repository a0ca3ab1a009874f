/-! the law: its loop, its entry -/
theorem ii_4 (i : Nat) : nI i + Int32.ofInt 4 = nI (i + 4) := by rw [ic_4n, nI_add]
set_option maxHeartbeats 4000000 in
set_option maxRecDepth 20000 in
theorem law_loop {z : hZt} {b Ls : Nat} {X : hXt} {xs : Nat → Int32} (hC : hOk z 0 X cL_law RL 4 10 226) (hX : va_X b Ls xs X.1.2.2.2.2.1 X.1.2.2.2.2.1.heap) (hbl : b < X.1.2.2.2.2.1.heap.size) (hLs : Ls ≤ 2048)
    (hend : ∀ M R Lc, hG z 0 X 226 M R 752 Lc []) : ∀ (k i : Nat) (M : hMem) (R : hRef) (lv c q L : Nat), Ls - i < k → i ≤ Ls + 4 → Inv M R lv c q L → hG z 0 X 226 M R 18 (lwL z b i) [] := by
  intro k
  induction k with
  | zero => intro i M R lv c q L h; exact absurd h (Nat.not_lt_zero _)
  | succ k ih =>
    intro i M R lv c q L hk hi4 h
    refine gx_iload_n (i := 3) hC dL_law_18 rfl rfl ?_
    refine gx_aload_n (i := 0) hC dL_law_19 rfl rfl (Or.inr ⟨_, rfl⟩) ?_
    refine gx_slen hC hX hbl dL_law_20 ?_
    refine gx_iconst (v := nI 4) hC dL_law_21 ic_4n ?_
    refine gx_isub hC dL_law_22 ?_
    refine gx_icmp_gt (tgt := 752) hC dL_law_23 (by decide) (fun _ => hend _ _ _) (fun e => ?_)
    have hi : i + 4 ≤ Ls := by
      have e1 := Int32.le_iff_toInt_le.mp (Int32.not_lt.mp e)
      rw [Int32.toInt_sub, nI_toInt (by omega), nI_toInt (by omega), nI_toInt (by omega), Int.bmod_eq_of_le (by omega) (by omega)] at e1
      omega
    refine gx_aload_n (i := 0) hC dL_law_26 rfl rfl (Or.inr ⟨_, rfl⟩) ?_
    refine gx_iload_n (i := 3) hC dL_law_27 rfl rfl ?_
    refine gx_sld hC hX hbl (show i < Ls by omega) (by omega) dL_law_28 ?_
    refine gx_bipush (v := 31) hC dL_law_29 bp_31 ?_
    refine gx_iand hC dL_law_31 ?_
    have kk : ∀ M2 R2 lv2 c2 q2 L2, Inv M2 R2 lv2 c2 q2 L2 → hG z 0 X 226 M2 R2 746 (lwL z b i) [] := fun M2 R2 lv2 c2 q2 L2 h2 => by
      refine gx_iinc (i := 3) (L' := lwL z b (i + 4)) hC dL_law_746 rfl (ii_4 _) (Nat.le_of_ble_eq_true rfl) rfl (fun u h9 => by right; cases h9; rfl) ?_
      refine gx_goto (tgt := 18) hC dL_law_749 (by decide) ?_
      exact ih (i + 4) M2 R2 lv2 c2 q2 L2 (by omega) (by omega) h2
    have hLs2 : Ls < 2 ^ 31 := by omega
    refine gx_table hC dL_law_32 (by decide) (fun _ tg ht => ?_) (fun j f hf hj tg ht => ?_) (by decide)
    · obtain rfl : tg = 746 := by omega
      exact kk _ _ _ _ _ _ h
    · match j, hf with
      | 0, hf =>
        obtain rfl : tg = 148 := by simp at hf; omega
        exact w_begin hC hX hbl hLs2 hi h kk
      | 1, hf =>
        obtain rfl : tg = 171 := by simp at hf; omega
        exact w_setLap hC hX hbl hLs2 hi h kk
      | 2, hf =>
        obtain rfl : tg = 194 := by simp at hf; omega
        exact w_setLimit hC hX hbl hLs2 hi h kk
      | 3, hf =>
        obtain rfl : tg = 217 := by simp at hf; omega
        exact w_setRunway hC hX hbl hLs2 hi h kk
      | 4, hf =>
        obtain rfl : tg = 256 := by simp at hf; omega
        exact w_setLadder hC hX hbl hLs2 hi h kk
      | 5, hf =>
        obtain rfl : tg = 295 := by simp at hf; omega
        exact w_enter hC hX hbl hLs2 hi h kk
      | 6, hf =>
        obtain rfl : tg = 338 := by simp at hf; omega
        exact w_call hC hX hbl hLs2 hi h kk
      | 7, hf =>
        obtain rfl : tg = 361 := by simp at hf; omega
        exact w_pass hC hX hbl hLs2 hi h kk
      | 8, hf =>
        obtain rfl : tg = 384 := by simp at hf; omega
        exact w_level hC hX hbl hLs2 hi h kk
      | 9, hf =>
        obtain rfl : tg = 407 := by simp at hf; omega
        exact w_aircraft hC hX hbl hLs2 hi h kk
      | 10, hf =>
        obtain rfl : tg = 440 := by simp at hf; omega
        exact w_tell hC hX hbl hLs2 hi h kk
      | 11, hf =>
        obtain rfl : tg = 463 := by simp at hf; omega
        exact w_why hC hX hbl hLs2 hi h kk
      | 12, hf =>
        obtain rfl : tg = 486 := by simp at hf; omega
        exact w_minutesLeft hC hX hbl hLs2 hi h kk
      | 13, hf =>
        obtain rfl : tg = 509 := by simp at hf; omega
        exact w_landsWith hC hX hbl hLs2 hi h kk
      | 14, hf =>
        obtain rfl : tg = 532 := by simp at hf; omega
        exact w_endurance hC hX hbl hLs2 hi h kk
      | 15, hf =>
        obtain rfl : tg = 555 := by simp at hf; omega
        exact w_bestLevel hC hX hbl hLs2 hi h kk
      | 16, hf =>
        obtain rfl : tg = 588 := by simp at hf; omega
        exact w_lands hC hX hbl hLs2 hi h kk
      | 17, hf =>
        obtain rfl : tg = 611 := by simp at hf; omega
        exact w_append hC hX hbl hLs2 hi h kk
      | 18, hf =>
        obtain rfl : tg = 634 := by simp at hf; omega
        exact w_clearText hC hX hbl hLs2 hi h kk
      | 19, hf =>
        obtain rfl : tg = 647 := by simp at hf; omega
        exact w_faultPosition hC hX hbl hLs2 hi h kk
      | 20, hf =>
        obtain rfl : tg = 660 := by simp at hf; omega
        exact w_run hC hX hbl hLs2 hi h kk
      | 21, hf =>
        obtain rfl : tg = 673 := by simp at hf; omega
        exact w_undo hC hX hbl hLs2 hi h kk
      | 22, hf =>
        obtain rfl : tg = 686 := by simp at hf; omega
        exact w_keep hC hX hbl hLs2 hi h kk
      | 23, hf =>
        obtain rfl : tg = 709 := by simp at hf; omega
        exact w_restore hC hX hbl hLs2 hi h kk
      | 24, hf =>
        obtain rfl : tg = 732 := by simp at hf; omega
        exact w_checksum hC hX hbl hLs2 hi h kk
      | j + 25, hf => simp at hf
