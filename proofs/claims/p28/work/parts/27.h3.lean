/-- why an aircraft stays where it is -/
def hWhy (M : hMem) (x : Int32) : Int32 := match sNum (getS M 1) x with
  | none => -1
  | some j => if ¬ M (1 + (3 + j)) 3 = 0 then 1 else if ¬ M (1 + (3 + j)) 5 = 0 then 2 else
    if M (1 + (3 + j)) 4 = 0 ∨ M (1 + (3 + j)) 2 ≤ kRes (M (1 + (3 + j)) 1) then (if ¬ M 1 6 = 0 ∧ M 1 8 = 0 then 0 else 3)
    else if bFree (getS M 1) (M (1 + (3 + j)) 4 - 1) = false then 4 else if ¬ M (1 + (3 + j)) 6 = 0 ∨ ¬ M 1 7 = 0 then 0 else 5
set_option maxHeartbeats 4000000 in
set_option maxRecDepth 20000 in
theorem c_X6_why (l : Launch) (z : hZt) {n : Nat} {M : hMem} {R : hRef} (gG : GS n R) {lv c : Nat} (hW : SW (getS M 1) lv c) (x : Int32) : hCt l z m_X6_why [.ref (z.1 + 0), .int x] n M R n (some (.int (hWhy M x))) M R := by
  refine hs_start [some (.ref (z.1 + 0)), some (.int x), none] (by decide +kernel) rfl (by intro u hu; simp at hu; rcases hu with rfl | rfl <;> first | rfl | exact isR_cat kv_isR | exact isR_cat aref_isR) (Nat.le_of_ble_eq_true rfl) (Nat.le_refl _) (fun X hlX hN hC hQ => ?_)
  dsimp only at hC hQ
  refine gx_aload_n (i := 0) hC dX6_why_0 rfl rfl (by first | exact Or.inr ⟨_, rfl⟩ | exact Or.inl rfl | exact kv_isR | exact aref_isR) ?_
  refine gx_getR hC dX6_why_1 fl_X6_10 (by first | exact gG.at0 | exact gG.at47 | exact gG.now.at | exact gG.ahd.at | exact gG.now.ac (by assumption) | exact gG.ahd.ac (by assumption)) rfl (gG.r0) (by decide) ?_
  refine gx_iload_n (i := 1) hC dX6_why_4 rfl rfl ?_
  refine gx_callV1 hC dX6_why_5 (e_X4_numbered gG.now _) kY_X4_numbered kV_X4_numbered ml_X6_108 (by first | exact gG.at0 | exact gG.at47 | exact gG.now.at | exact gG.ahd.at | exact gG.now.ac (by assumption) | exact gG.ahd.ac (by assumption)) rfl (by decide) rfl rfl rfl (by first | exact Nat.le_of_ble_eq_true rfl | (simp [Value.category, isR_cat kv_isR, isR_cat aref_isR]; done)) (Nat.le_refl _) (Nat.le_refl _) ?_
  refine gx_astore_n (i := 2) (L' := [_, _, _]) hC dX6_why_8 rfl (Nat.le_of_ble_eq_true rfl) rfl (fun u h9 => by first | exact Or.inl rfl | (cases h9; done) | (right; cases h9; first | rfl | exact isR_cat aref_isR | exact isR_cat kv_isR)) (by first | exact Or.inr ⟨_, rfl⟩ | exact Or.inl rfl | exact kv_isR | exact aref_isR) ?_
  refine gx_aload_n (i := 2) hC dX6_why_9 rfl rfl (by first | exact Or.inr ⟨_, rfl⟩ | exact Or.inl rfl | exact kv_isR | exact aref_isR) ?_
  refine gx_ifnonnull_o (tgt := 15) hC dX6_why_10 (by decide) (fun j_10 c_10 => ?_) (fun c_10 => ?_)
  · have hj_10 := sNum_lt c_10
    simp only [c_10, aref_some]
    refine gx_aload_n (i := 2) hC dX6_why_15 rfl rfl (by first | exact Or.inr ⟨_, rfl⟩ | exact Or.inl rfl | exact kv_isR | exact aref_isR) ?_
    refine gx_callV1 hC dX6_why_16 (c_X0_isHolding _ _ (gG.now.ac hj_10)) kY_X0_isHolding kV_X0_isHolding ml_X6_126 (by first | exact gG.at0 | exact gG.at47 | exact gG.now.at | exact gG.ahd.at | exact gG.now.ac (by assumption) | exact gG.ahd.ac (by assumption)) rfl (by decide) rfl rfl rfl (by first | exact Nat.le_of_ble_eq_true rfl | (simp [Value.category, isR_cat kv_isR, isR_cat aref_isR]; done)) (Nat.le_refl _) (Nat.le_refl _) ?_
    refine gx_ifb_ne (tgt := 24) hC dX6_why_19 (by decide) (fun c_19 => ?_) (fun c_19 => ?_)
    · refine gx_aload_n (i := 2) hC dX6_why_24 rfl rfl (by first | exact Or.inr ⟨_, rfl⟩ | exact Or.inl rfl | exact kv_isR | exact aref_isR) ?_
      refine gx_callV1 hC dX6_why_25 (c_X0_isOverFix _ _ (gG.now.ac hj_10)) kY_X0_isOverFix kV_X0_isOverFix ml_X6_157 (by first | exact gG.at0 | exact gG.at47 | exact gG.now.at | exact gG.ahd.at | exact gG.now.ac (by assumption) | exact gG.ahd.ac (by assumption)) rfl (by decide) rfl rfl rfl (by first | exact Nat.le_of_ble_eq_true rfl | (simp [Value.category, isR_cat kv_isR, isR_cat aref_isR]; done)) (Nat.le_refl _) (Nat.le_refl _) ?_
      refine gx_ifb_ne (tgt := 33) hC dX6_why_28 (by decide) (fun c_28 => ?_) (fun c_28 => ?_)
      · refine gx_aload_n (i := 2) hC dX6_why_33 rfl rfl (by first | exact Or.inr ⟨_, rfl⟩ | exact Or.inl rfl | exact kv_isR | exact aref_isR) ?_
        refine gx_getI hC dX6_why_34 fl_X6_160 (by first | exact gG.at0 | exact gG.at47 | exact gG.now.at | exact gG.ahd.at | exact gG.now.ac (by assumption) | exact gG.ahd.ac (by assumption)) (by decide) (rfl) ?_
        refine gx_if_eq (tgt := 47) hC dX6_why_37 (by decide) (fun c_37 => ?_) (fun c_37 => ?_)
        · refine gx_aload_n (i := 0) hC dX6_why_47 rfl rfl (by first | exact Or.inr ⟨_, rfl⟩ | exact Or.inl rfl | exact kv_isR | exact aref_isR) ?_
          refine gx_getR hC dX6_why_48 fl_X6_10 (by first | exact gG.at0 | exact gG.at47 | exact gG.now.at | exact gG.ahd.at | exact gG.now.ac (by assumption) | exact gG.ahd.ac (by assumption)) rfl (gG.r0) (by decide) ?_
          refine gx_getZ hC dX6_why_51 fl_X6_61 (by first | exact gG.at0 | exact gG.at47 | exact gG.now.at | exact gG.ahd.at | exact gG.now.ac (by assumption) | exact gG.ahd.ac (by assumption)) rfl (rfl) (fun hz_51 => ?_)
          refine gx_if_eq (tgt := 71) hC dX6_why_54 (by decide) (fun c_54 => ?_) (fun c_54 => ?_)
          · refine gx_iconst (v := 3) hC dX6_why_71 ic_3 ?_
            exact gx_iret hC hQ dX6_why_72 ((by unfold hWhy; rw [c_10]; simp only; rw [if_neg (fun q => q (of_decide_eq_true c_19)), if_neg (fun q => q (of_decide_eq_true c_28)), if_pos (Or.inl c_37), if_neg (fun q => q.1 c_54)])) (rfl) rfl
          · refine gx_aload_n (i := 0) hC dX6_why_57 rfl rfl (by first | exact Or.inr ⟨_, rfl⟩ | exact Or.inl rfl | exact kv_isR | exact aref_isR) ?_
            refine gx_getR hC dX6_why_58 fl_X6_10 (by first | exact gG.at0 | exact gG.at47 | exact gG.now.at | exact gG.ahd.at | exact gG.now.ac (by assumption) | exact gG.ahd.ac (by assumption)) rfl (gG.r0) (by decide) ?_
            refine gx_getI hC dX6_why_61 fl_X6_142 (by first | exact gG.at0 | exact gG.at47 | exact gG.now.at | exact gG.ahd.at | exact gG.now.ac (by assumption) | exact gG.ahd.ac (by assumption)) (by decide) (rfl) ?_
            refine gx_if_ne (tgt := 71) hC dX6_why_64 (by decide) (fun c_64 => ?_) (fun c_64 => ?_)
            · refine gx_iconst (v := 3) hC dX6_why_71 ic_3 ?_
              exact gx_iret hC hQ dX6_why_72 ((by unfold hWhy; rw [c_10]; simp only; rw [if_neg (fun q => q (of_decide_eq_true c_19)), if_neg (fun q => q (of_decide_eq_true c_28)), if_pos (Or.inl c_37), if_neg (fun q => c_64 q.2)])) (rfl) rfl
            · refine gx_iconst (v := 0) hC dX6_why_67 ic_0 ?_
              refine gx_goto (tgt := 72) hC dX6_why_68 (by decide) ?_
              exact gx_iret hC hQ dX6_why_72 ((by unfold hWhy; rw [c_10]; simp only; rw [if_neg (fun q => q (of_decide_eq_true c_19)), if_neg (fun q => q (of_decide_eq_true c_28)), if_pos (Or.inl c_37), if_pos ⟨c_54, c_64⟩])) (rfl) rfl
        · refine gx_aload_n (i := 2) hC dX6_why_40 rfl rfl (by first | exact Or.inr ⟨_, rfl⟩ | exact Or.inl rfl | exact kv_isR | exact aref_isR) ?_
          refine gx_callV1 hC dX6_why_41 (c_X0_isShort _ _ (gG.now.ac hj_10) (by have h9 := hW.kd hj_10; rw [getS_at (by omega)] at h9; exact h9)) kY_X0_isShort kV_X0_isShort ml_X6_122 (by first | exact gG.at0 | exact gG.at47 | exact gG.now.at | exact gG.ahd.at | exact gG.now.ac (by assumption) | exact gG.ahd.ac (by assumption)) rfl (by decide) rfl rfl rfl (by first | exact Nat.le_of_ble_eq_true rfl | (simp [Value.category, isR_cat kv_isR, isR_cat aref_isR]; done)) (Nat.le_refl _) (Nat.le_refl _) ?_
          refine gx_ifb_eq (tgt := 73) hC dX6_why_44 (by decide) (fun c_44 => ?_) (fun c_44 => ?_)
          · refine gx_aload_n (i := 0) hC dX6_why_73 rfl rfl (by first | exact Or.inr ⟨_, rfl⟩ | exact Or.inl rfl | exact kv_isR | exact aref_isR) ?_
            refine gx_getR hC dX6_why_74 fl_X6_10 (by first | exact gG.at0 | exact gG.at47 | exact gG.now.at | exact gG.ahd.at | exact gG.now.ac (by assumption) | exact gG.ahd.ac (by assumption)) rfl (gG.r0) (by decide) ?_
            refine gx_aload_n (i := 2) hC dX6_why_77 rfl rfl (by first | exact Or.inr ⟨_, rfl⟩ | exact Or.inl rfl | exact kv_isR | exact aref_isR) ?_
            refine gx_getI hC dX6_why_78 fl_X6_160 (by first | exact gG.at0 | exact gG.at47 | exact gG.now.at | exact gG.ahd.at | exact gG.now.ac (by assumption) | exact gG.ahd.ac (by assumption)) (by decide) (rfl) ?_
            refine gx_iconst (v := 1) hC dX6_why_81 ic_1 ?_
            refine gx_isub hC dX6_why_82 ?_
            refine gx_callV1 hC dX6_why_83 (e_X4_isFree gG.now _) kY_X4_isFree kV_X4_isFree ml_X6_163 (by first | exact gG.at0 | exact gG.at47 | exact gG.now.at | exact gG.ahd.at | exact gG.now.ac (by assumption) | exact gG.ahd.ac (by assumption)) rfl (by decide) rfl rfl rfl (by first | exact Nat.le_of_ble_eq_true rfl | (simp [Value.category, isR_cat kv_isR, isR_cat aref_isR]; done)) (Nat.le_refl _) (Nat.le_refl _) ?_
            refine gx_ifb_ne (tgt := 91) hC dX6_why_86 (by decide) (fun c_86 => ?_) (fun c_86 => ?_)
            · refine gx_aload_n (i := 2) hC dX6_why_91 rfl rfl (by first | exact Or.inr ⟨_, rfl⟩ | exact Or.inl rfl | exact kv_isR | exact aref_isR) ?_
              refine gx_getZ hC dX6_why_92 fl_X6_166 (by first | exact gG.at0 | exact gG.at47 | exact gG.now.at | exact gG.ahd.at | exact gG.now.ac (by assumption) | exact gG.ahd.ac (by assumption)) rfl (rfl) (fun hz_92 => ?_)
              refine gx_if_ne (tgt := 108) hC dX6_why_95 (by decide) (fun c_95 => ?_) (fun c_95 => ?_)
              · refine gx_iconst (v := 0) hC dX6_why_108 ic_0 ?_
                refine gx_goto (tgt := 113) hC dX6_why_109 (by decide) ?_
                exact gx_iret hC hQ dX6_why_113 ((by unfold hWhy; rw [c_10]; simp only; rw [if_neg (fun q => q (of_decide_eq_true c_19)), if_neg (fun q => q (of_decide_eq_true c_28)), if_neg (fun q => q.elim c_37 (of_decide_eq_false c_44)), if_neg (by rw [c_86]; decide), if_pos (Or.inl c_95)])) (rfl) rfl
              · refine gx_aload_n (i := 0) hC dX6_why_98 rfl rfl (by first | exact Or.inr ⟨_, rfl⟩ | exact Or.inl rfl | exact kv_isR | exact aref_isR) ?_
                refine gx_getR hC dX6_why_99 fl_X6_10 (by first | exact gG.at0 | exact gG.at47 | exact gG.now.at | exact gG.ahd.at | exact gG.now.ac (by assumption) | exact gG.ahd.ac (by assumption)) rfl (gG.r0) (by decide) ?_
                refine gx_getZ hC dX6_why_102 fl_X6_69 (by first | exact gG.at0 | exact gG.at47 | exact gG.now.at | exact gG.ahd.at | exact gG.now.ac (by assumption) | exact gG.ahd.ac (by assumption)) rfl (rfl) (fun hz_102 => ?_)
                refine gx_if_eq (tgt := 112) hC dX6_why_105 (by decide) (fun c_105 => ?_) (fun c_105 => ?_)
                · refine gx_iconst (v := 5) hC dX6_why_112 ic_5 ?_
                  exact gx_iret hC hQ dX6_why_113 ((by unfold hWhy; rw [c_10]; simp only; rw [if_neg (fun q => q (of_decide_eq_true c_19)), if_neg (fun q => q (of_decide_eq_true c_28)), if_neg (fun q => q.elim c_37 (of_decide_eq_false c_44)), if_neg (by rw [c_86]; decide), if_neg (fun q => q.elim (fun r => r c_95) (fun r => r c_105))])) (rfl) rfl
                · refine gx_iconst (v := 0) hC dX6_why_108 ic_0 ?_
                  refine gx_goto (tgt := 113) hC dX6_why_109 (by decide) ?_
                  exact gx_iret hC hQ dX6_why_113 ((by unfold hWhy; rw [c_10]; simp only; rw [if_neg (fun q => q (of_decide_eq_true c_19)), if_neg (fun q => q (of_decide_eq_true c_28)), if_neg (fun q => q.elim c_37 (of_decide_eq_false c_44)), if_neg (by rw [c_86]; decide), if_pos (Or.inr c_105)])) (rfl) rfl
            · refine gx_iconst (v := 4) hC dX6_why_89 ic_4 ?_
              exact gx_iret hC hQ dX6_why_90 ((by unfold hWhy; rw [c_10]; simp only; rw [if_neg (fun q => q (of_decide_eq_true c_19)), if_neg (fun q => q (of_decide_eq_true c_28)), if_neg (fun q => q.elim c_37 (of_decide_eq_false c_44)), if_pos c_86])) (rfl) rfl
          · refine gx_aload_n (i := 0) hC dX6_why_47 rfl rfl (by first | exact Or.inr ⟨_, rfl⟩ | exact Or.inl rfl | exact kv_isR | exact aref_isR) ?_
            refine gx_getR hC dX6_why_48 fl_X6_10 (by first | exact gG.at0 | exact gG.at47 | exact gG.now.at | exact gG.ahd.at | exact gG.now.ac (by assumption) | exact gG.ahd.ac (by assumption)) rfl (gG.r0) (by decide) ?_
            refine gx_getZ hC dX6_why_51 fl_X6_61 (by first | exact gG.at0 | exact gG.at47 | exact gG.now.at | exact gG.ahd.at | exact gG.now.ac (by assumption) | exact gG.ahd.ac (by assumption)) rfl (rfl) (fun hz_51 => ?_)
            refine gx_if_eq (tgt := 71) hC dX6_why_54 (by decide) (fun c_54 => ?_) (fun c_54 => ?_)
            · refine gx_iconst (v := 3) hC dX6_why_71 ic_3 ?_
              exact gx_iret hC hQ dX6_why_72 ((by unfold hWhy; rw [c_10]; simp only; rw [if_neg (fun q => q (of_decide_eq_true c_19)), if_neg (fun q => q (of_decide_eq_true c_28)), if_pos (Or.inr (of_decide_eq_true c_44)), if_neg (fun q => q.1 c_54)])) (rfl) rfl
            · refine gx_aload_n (i := 0) hC dX6_why_57 rfl rfl (by first | exact Or.inr ⟨_, rfl⟩ | exact Or.inl rfl | exact kv_isR | exact aref_isR) ?_
              refine gx_getR hC dX6_why_58 fl_X6_10 (by first | exact gG.at0 | exact gG.at47 | exact gG.now.at | exact gG.ahd.at | exact gG.now.ac (by assumption) | exact gG.ahd.ac (by assumption)) rfl (gG.r0) (by decide) ?_
              refine gx_getI hC dX6_why_61 fl_X6_142 (by first | exact gG.at0 | exact gG.at47 | exact gG.now.at | exact gG.ahd.at | exact gG.now.ac (by assumption) | exact gG.ahd.ac (by assumption)) (by decide) (rfl) ?_
              refine gx_if_ne (tgt := 71) hC dX6_why_64 (by decide) (fun c_64 => ?_) (fun c_64 => ?_)
              · refine gx_iconst (v := 3) hC dX6_why_71 ic_3 ?_
                exact gx_iret hC hQ dX6_why_72 ((by unfold hWhy; rw [c_10]; simp only; rw [if_neg (fun q => q (of_decide_eq_true c_19)), if_neg (fun q => q (of_decide_eq_true c_28)), if_pos (Or.inr (of_decide_eq_true c_44)), if_neg (fun q => c_64 q.2)])) (rfl) rfl
              · refine gx_iconst (v := 0) hC dX6_why_67 ic_0 ?_
                refine gx_goto (tgt := 72) hC dX6_why_68 (by decide) ?_
                exact gx_iret hC hQ dX6_why_72 ((by unfold hWhy; rw [c_10]; simp only; rw [if_neg (fun q => q (of_decide_eq_true c_19)), if_neg (fun q => q (of_decide_eq_true c_28)), if_pos (Or.inr (of_decide_eq_true c_44)), if_pos ⟨c_54, c_64⟩])) (rfl) rfl
      · refine gx_iconst (v := 2) hC dX6_why_31 ic_2 ?_
        exact gx_iret hC hQ dX6_why_32 ((by unfold hWhy; rw [c_10]; simp only; rw [if_neg (fun q => q (of_decide_eq_true c_19)), if_pos (of_decide_eq_false c_28)])) (rfl) rfl
    · refine gx_iconst (v := 1) hC dX6_why_22 ic_1 ?_
      exact gx_iret hC hQ dX6_why_23 ((by unfold hWhy; rw [c_10]; simp only; rw [if_pos (of_decide_eq_false c_19)])) (rfl) rfl
  · try simp only [c_10, aref_none]
    refine gx_iconst (v := -1) hC dX6_why_13 ic_m1 ?_
    exact gx_iret hC hQ dX6_why_14 ((by unfold hWhy; rw [c_10])) (rfl) rfl
def hEnu (M : hMem) (x : Int32) : Int32 := match sNum (getS M 1) x with
  | none => -1
  | some j => if M (1 + (3 + j)) 3 = 0 then aUntil M (1 + (3 + j)) else -3
set_option maxHeartbeats 4000000 in
set_option maxRecDepth 20000 in
theorem c_X6_endurance (l : Launch) (z : hZt) {n : Nat} {M : hMem} {R : hRef} (gG : GS n R) {lv c : Nat} (hW : SW (getS M 1) lv c) (x : Int32) : hCt l z m_X6_endurance [.ref (z.1 + 0), .int x] n M R n (some (.int (hEnu M x))) M R := by
  refine hs_start [some (.ref (z.1 + 0)), some (.int x), none] (by decide +kernel) rfl (by intro u hu; simp at hu; rcases hu with rfl | rfl <;> first | rfl | exact isR_cat kv_isR | exact isR_cat aref_isR) (Nat.le_of_ble_eq_true rfl) (Nat.le_refl _) (fun X hlX hN hC hQ => ?_)
  dsimp only at hC hQ
  refine gx_aload_n (i := 0) hC dX6_endurance_0 rfl rfl (by first | exact Or.inr ⟨_, rfl⟩ | exact Or.inl rfl | exact kv_isR | exact aref_isR) ?_
  refine gx_getR hC dX6_endurance_1 fl_X6_10 (by first | exact gG.at0 | exact gG.at47 | exact gG.now.at | exact gG.ahd.at | exact gG.now.ac (by assumption) | exact gG.ahd.ac (by assumption)) rfl (gG.r0) (by decide) ?_
  refine gx_iload_n (i := 1) hC dX6_endurance_4 rfl rfl ?_
  refine gx_callV1 hC dX6_endurance_5 (e_X4_numbered gG.now _) kY_X4_numbered kV_X4_numbered ml_X6_108 (by first | exact gG.at0 | exact gG.at47 | exact gG.now.at | exact gG.ahd.at | exact gG.now.ac (by assumption) | exact gG.ahd.ac (by assumption)) rfl (by decide) rfl rfl rfl (by first | exact Nat.le_of_ble_eq_true rfl | (simp [Value.category, isR_cat kv_isR, isR_cat aref_isR]; done)) (Nat.le_refl _) (Nat.le_refl _) ?_
  refine gx_astore_n (i := 2) (L' := [_, _, _]) hC dX6_endurance_8 rfl (Nat.le_of_ble_eq_true rfl) rfl (fun u h9 => by first | exact Or.inl rfl | (cases h9; done) | (right; cases h9; first | rfl | exact isR_cat aref_isR | exact isR_cat kv_isR)) (by first | exact Or.inr ⟨_, rfl⟩ | exact Or.inl rfl | exact kv_isR | exact aref_isR) ?_
  refine gx_aload_n (i := 2) hC dX6_endurance_9 rfl rfl (by first | exact Or.inr ⟨_, rfl⟩ | exact Or.inl rfl | exact kv_isR | exact aref_isR) ?_
  refine gx_ifnonnull_o (tgt := 15) hC dX6_endurance_10 (by decide) (fun j_10 c_10 => ?_) (fun c_10 => ?_)
  · have hj_10 := sNum_lt c_10
    simp only [c_10, aref_some]
    refine gx_aload_n (i := 2) hC dX6_endurance_15 rfl rfl (by first | exact Or.inr ⟨_, rfl⟩ | exact Or.inl rfl | exact kv_isR | exact aref_isR) ?_
    refine gx_callV1 hC dX6_endurance_16 (c_X0_isHolding _ _ (gG.now.ac hj_10)) kY_X0_isHolding kV_X0_isHolding ml_X6_126 (by first | exact gG.at0 | exact gG.at47 | exact gG.now.at | exact gG.ahd.at | exact gG.now.ac (by assumption) | exact gG.ahd.ac (by assumption)) rfl (by decide) rfl rfl rfl (by first | exact Nat.le_of_ble_eq_true rfl | (simp [Value.category, isR_cat kv_isR, isR_cat aref_isR]; done)) (Nat.le_refl _) (Nat.le_refl _) ?_
    refine gx_ifb_eq (tgt := 29) hC dX6_endurance_19 (by decide) (fun c_19 => ?_) (fun c_19 => ?_)
    · refine gx_bipush (v := -3) hC dX6_endurance_29 bp_m3 ?_
      exact gx_iret hC hQ dX6_endurance_31 ((by unfold hEnu; rw [c_10]; simp only; rw [if_neg (of_decide_eq_false c_19)])) (rfl) rfl
    · refine gx_aload_n (i := 2) hC dX6_endurance_22 rfl rfl (by first | exact Or.inr ⟨_, rfl⟩ | exact Or.inl rfl | exact kv_isR | exact aref_isR) ?_
      refine gx_callV1 hC dX6_endurance_23 (c_X0_minutesUntilShort _ _ (gG.now.ac hj_10) (by have h9 := hW.kd hj_10; rw [getS_at (by omega)] at h9; exact h9)) kY_X0_minutesUntilShort kV_X0_minutesUntilShort ml_X6_175 (by first | exact gG.at0 | exact gG.at47 | exact gG.now.at | exact gG.ahd.at | exact gG.now.ac (by assumption) | exact gG.ahd.ac (by assumption)) rfl (by decide) rfl rfl rfl (by first | exact Nat.le_of_ble_eq_true rfl | (simp [Value.category, isR_cat kv_isR, isR_cat aref_isR]; done)) (Nat.le_refl _) (Nat.le_refl _) ?_
      refine gx_goto (tgt := 31) hC dX6_endurance_26 (by decide) ?_
      exact gx_iret hC hQ dX6_endurance_31 ((by unfold hEnu; rw [c_10]; simp only; rw [if_pos (of_decide_eq_true c_19)])) (rfl) rfl
  · try simp only [c_10, aref_none]
    refine gx_iconst (v := -1) hC dX6_endurance_13 ic_m1 ?_
    exact gx_iret hC hQ dX6_endurance_14 ((by unfold hEnu; rw [c_10])) (rfl) rfl
def hAcT (M : hMem) (j : Nat) (x : Int32) : Int32 := if x = 0 then M (1 + (3 + j)) 1 else if x = 1 then M (1 + (3 + j)) 2 else if x = 2 then M (1 + (3 + j)) 3
  else if x = 6 then b2 (decide (M (1 + (3 + j)) 2 ≤ kRes (M (1 + (3 + j)) 1))) else if x = 7 then (if M (1 + (3 + j)) 3 = 0 then -6 else M (1 + (3 + j)) 7)
  else (if M (1 + (3 + j)) 3 = 0 then tH M j x else -6)
def hAc (M : hMem) (a x : Int32) : Int32 := match sNum (getS M 1) a with
  | none => -1
  | some j => if x < 0 ∨ 8 ≤ x then -1 else hAcT M j x
theorem x_of {x : Int32} {k : Int} {v : Int32} (h : x.toInt = k) (hv : v.toInt = k) : x = v := Int32.toInt_inj.mp (h.trans hv.symm)
set_option maxHeartbeats 4000000 in
set_option maxRecDepth 20000 in
theorem c_X6_aircraft (l : Launch) (z : hZt) {n : Nat} {M : hMem} {R : hRef} (gG : GS n R) {lv c : Nat} (hW : SW (getS M 1) lv c) (a x : Int32) : hCt l z m_X6_aircraft [.ref (z.1 + 0), .int a, .int x] n M R n (some (.int (hAc M a x))) M R := by
  refine hs_start [some (.ref (z.1 + 0)), some (.int a), some (.int x), none] (by decide +kernel) rfl (by intro u hu; simp at hu; rcases hu with rfl | rfl | rfl <;> first | rfl | exact isR_cat kv_isR | exact isR_cat aref_isR) (Nat.le_of_ble_eq_true rfl) (Nat.le_refl _) (fun X hlX hN hC hQ => ?_)
  dsimp only at hC hQ
  refine gx_aload_n (i := 0) hC dX6_aircraft_0 rfl rfl (by first | exact Or.inr ⟨_, rfl⟩ | exact Or.inl rfl | exact kv_isR | exact aref_isR) ?_
  refine gx_getR hC dX6_aircraft_1 fl_X6_10 (by first | exact gG.at0 | exact gG.at47 | exact gG.now.at | exact gG.ahd.at | exact gG.now.ac (by assumption) | exact gG.ahd.ac (by assumption)) rfl (gG.r0) (by decide) ?_
  refine gx_iload_n (i := 1) hC dX6_aircraft_4 rfl rfl ?_
  refine gx_callV1 hC dX6_aircraft_5 (e_X4_numbered gG.now _) kY_X4_numbered kV_X4_numbered ml_X6_108 (by first | exact gG.at0 | exact gG.at47 | exact gG.now.at | exact gG.ahd.at | exact gG.now.ac (by assumption) | exact gG.ahd.ac (by assumption)) rfl (by decide) rfl rfl rfl (by first | exact Nat.le_of_ble_eq_true rfl | (simp [Value.category, isR_cat kv_isR, isR_cat aref_isR]; done)) (Nat.le_refl _) (Nat.le_refl _) ?_
  refine gx_astore_n (i := 3) (L' := [_, _, _, _]) hC dX6_aircraft_8 rfl (Nat.le_of_ble_eq_true rfl) rfl (fun u h9 => by first | exact Or.inl rfl | (cases h9; done) | (right; cases h9; first | rfl | exact isR_cat aref_isR | exact isR_cat kv_isR)) (by first | exact Or.inr ⟨_, rfl⟩ | exact Or.inl rfl | exact kv_isR | exact aref_isR) ?_
  refine gx_aload_n (i := 3) hC dX6_aircraft_9 rfl rfl (by first | exact Or.inr ⟨_, rfl⟩ | exact Or.inl rfl | exact kv_isR | exact aref_isR) ?_
  refine gx_ifnull_o (tgt := 23) hC dX6_aircraft_10 (by decide) (fun c_10 => ?_) (fun j_10 c_10 => ?_)
  · try simp only [c_10, aref_none]
    refine gx_iconst (v := -1) hC dX6_aircraft_23 ic_m1 ?_
    exact gx_iret hC hQ dX6_aircraft_24 ((by unfold hAc; rw [c_10])) (rfl) rfl
  · have hj_10 := sNum_lt c_10
    simp only [c_10, aref_some]
    refine gx_iload_n (i := 2) hC dX6_aircraft_13 rfl rfl ?_
    refine gx_if_lt (tgt := 23) hC dX6_aircraft_14 (by decide) (fun c_14 => ?_) (fun c_14 => ?_)
    · refine gx_iconst (v := -1) hC dX6_aircraft_23 ic_m1 ?_
      exact gx_iret hC hQ dX6_aircraft_24 ((by unfold hAc; rw [c_10]; simp only; rw [if_pos (Or.inl c_14)])) (rfl) rfl
    · refine gx_iload_n (i := 2) hC dX6_aircraft_17 rfl rfl ?_
      refine gx_bipush (v := 8) hC dX6_aircraft_18 bp_8 ?_
      refine gx_icmp_lt (tgt := 25) hC dX6_aircraft_20 (by decide) (fun c_20 => ?_) (fun c_20 => ?_)
      · refine gx_iload_n (i := 2) hC dX6_aircraft_25 rfl rfl ?_
        refine gx_table hC dX6_aircraft_26 (by decide) (fun c_26 tg ht => ?_) (fun j f hf hj tg ht => ?_) (by decide)
        · exfalso; clear hQ hC hN hlX; simp only [Int32.le_iff_toInt_le, Int32.lt_iff_toInt_lt, Int32.not_le, Int32.not_lt, ← Int32.toInt_inj, i32c_0, i32c_1, i32c_2, i32c_3, i32c_4, i32c_5, i32c_6, i32c_7, i32c_8, i32c_9, i32c_16, i32c_20, i32c_99, i32c_m1, i32c_m6, ni_16, ni_20, ni_80, ni_2, ni_5, ni_0, ne_eq] at *; omega
        · match j, hf with
          | 0, hf =>
            obtain rfl : tg = 72 := by simp at hf; omega
            refine gx_aload_n (i := 3) hC dX6_aircraft_72 rfl rfl (by first | exact Or.inr ⟨_, rfl⟩ | exact Or.inl rfl | exact kv_isR | exact aref_isR) ?_
            refine gx_getE hC dX6_aircraft_73 fl_X6_111 (by first | exact gG.at0 | exact gG.at47 | exact gG.now.at | exact gG.ahd.at | exact gG.now.ac (by assumption) | exact gG.ahd.ac (by assumption)) rfl (rfl) ?_
            refine gx_getK hC dX6_aircraft_76 0 (by decide) fl_X6_115 (by have h9 := hW.kd hj_10; rw [getS_at (by omega)] at h9; exact h9) kf_0 ?_
            exact gx_iret hC hQ dX6_aircraft_79 ((by unfold hAc; rw [c_10]; simp only; rw [if_neg (fun q => q.elim c_14 (Int32.not_le.mpr c_20))]; unfold hAcT; obtain rfl : x = 0 := x_of (k := 0) (by rw [hj]; rfl) (by decide); simp [kFld])) (rfl) rfl
          | 1, hf =>
            obtain rfl : tg = 80 := by simp at hf; omega
            refine gx_aload_n (i := 3) hC dX6_aircraft_80 rfl rfl (by first | exact Or.inr ⟨_, rfl⟩ | exact Or.inl rfl | exact kv_isR | exact aref_isR) ?_
            refine gx_getI hC dX6_aircraft_81 fl_X6_116 (by first | exact gG.at0 | exact gG.at47 | exact gG.now.at | exact gG.ahd.at | exact gG.now.ac (by assumption) | exact gG.ahd.ac (by assumption)) (by decide) (rfl) ?_
            exact gx_iret hC hQ dX6_aircraft_84 ((by unfold hAc; rw [c_10]; simp only; rw [if_neg (fun q => q.elim c_14 (Int32.not_le.mpr c_20))]; unfold hAcT; obtain rfl : x = 1 := x_of (k := 1) (by rw [hj]; rfl) (by decide); simp [kFld])) (rfl) rfl
          | 2, hf =>
            obtain rfl : tg = 85 := by simp at hf; omega
            refine gx_aload_n (i := 3) hC dX6_aircraft_85 rfl rfl (by first | exact Or.inr ⟨_, rfl⟩ | exact Or.inl rfl | exact kv_isR | exact aref_isR) ?_
            refine gx_getI hC dX6_aircraft_86 fl_X6_119 (by first | exact gG.at0 | exact gG.at47 | exact gG.now.at | exact gG.ahd.at | exact gG.now.ac (by assumption) | exact gG.ahd.ac (by assumption)) (by decide) (rfl) ?_
            exact gx_iret hC hQ dX6_aircraft_89 ((by unfold hAc; rw [c_10]; simp only; rw [if_neg (fun q => q.elim c_14 (Int32.not_le.mpr c_20))]; unfold hAcT; obtain rfl : x = 2 := x_of (k := 2) (by rw [hj]; rfl) (by decide); simp [kFld])) (rfl) rfl
          | 3, hf =>
            obtain rfl : tg = 115 := by simp at hf; omega
            refine gx_aload_n (i := 3) hC dX6_aircraft_115 rfl rfl (by first | exact Or.inr ⟨_, rfl⟩ | exact Or.inl rfl | exact kv_isR | exact aref_isR) ?_
            refine gx_callV1 hC dX6_aircraft_116 (c_X0_isHolding _ _ (gG.now.ac hj_10)) kY_X0_isHolding kV_X0_isHolding ml_X6_126 (by first | exact gG.at0 | exact gG.at47 | exact gG.now.at | exact gG.ahd.at | exact gG.now.ac (by assumption) | exact gG.ahd.ac (by assumption)) rfl (by decide) rfl rfl rfl (by first | exact Nat.le_of_ble_eq_true rfl | (simp [Value.category, isR_cat kv_isR, isR_cat aref_isR]; done)) (Nat.le_refl _) (Nat.le_refl _) ?_
            refine gx_ifb_eq (tgt := 130) hC dX6_aircraft_119 (by decide) (fun c_119 => ?_) (fun c_119 => ?_)
            · refine gx_bipush (v := -6) hC dX6_aircraft_130 bp_m6 ?_
              exact gx_iret hC hQ dX6_aircraft_132 ((by unfold hAc; rw [c_10]; simp only; rw [if_neg (fun q => q.elim c_14 (Int32.not_le.mpr c_20))]; unfold hAcT; obtain rfl : x = 3 := x_of (k := 3) (by rw [hj]; rfl) (by decide); have q9 := of_decide_eq_false c_119; simp [q9])) (rfl) rfl
            · refine gx_aload_n (i := 3) hC dX6_aircraft_122 rfl rfl (by first | exact Or.inr ⟨_, rfl⟩ | exact Or.inl rfl | exact kv_isR | exact aref_isR) ?_
              refine gx_iload_n (i := 2) hC dX6_aircraft_123 rfl rfl ?_
              refine gx_callS1 hC dX6_aircraft_124 (c_X6_tellHolding _ _ gG hj_10 _) kY_X6_tellHolding kS_X6_tellHolding ml_X6_132 (by decide) rfl rfl rfl (by first | exact Nat.le_of_ble_eq_true rfl | (simp [Value.category, isR_cat kv_isR, isR_cat aref_isR]; done)) (Nat.le_refl _) (Nat.le_refl _) ?_
              refine gx_goto (tgt := 132) hC dX6_aircraft_127 (by decide) ?_
              exact gx_iret hC hQ dX6_aircraft_132 ((by unfold hAc; rw [c_10]; simp only; rw [if_neg (fun q => q.elim c_14 (Int32.not_le.mpr c_20))]; unfold hAcT; obtain rfl : x = 3 := x_of (k := 3) (by rw [hj]; rfl) (by decide); have q9 := of_decide_eq_true c_119; simp [q9])) (rfl) rfl
          | 4, hf =>
            obtain rfl : tg = 115 := by simp at hf; omega
            refine gx_aload_n (i := 3) hC dX6_aircraft_115 rfl rfl (by first | exact Or.inr ⟨_, rfl⟩ | exact Or.inl rfl | exact kv_isR | exact aref_isR) ?_
            refine gx_callV1 hC dX6_aircraft_116 (c_X0_isHolding _ _ (gG.now.ac hj_10)) kY_X0_isHolding kV_X0_isHolding ml_X6_126 (by first | exact gG.at0 | exact gG.at47 | exact gG.now.at | exact gG.ahd.at | exact gG.now.ac (by assumption) | exact gG.ahd.ac (by assumption)) rfl (by decide) rfl rfl rfl (by first | exact Nat.le_of_ble_eq_true rfl | (simp [Value.category, isR_cat kv_isR, isR_cat aref_isR]; done)) (Nat.le_refl _) (Nat.le_refl _) ?_
            refine gx_ifb_eq (tgt := 130) hC dX6_aircraft_119 (by decide) (fun c_119 => ?_) (fun c_119 => ?_)
            · refine gx_bipush (v := -6) hC dX6_aircraft_130 bp_m6 ?_
              exact gx_iret hC hQ dX6_aircraft_132 ((by unfold hAc; rw [c_10]; simp only; rw [if_neg (fun q => q.elim c_14 (Int32.not_le.mpr c_20))]; unfold hAcT; obtain rfl : x = 4 := x_of (k := 4) (by rw [hj]; rfl) (by decide); have q9 := of_decide_eq_false c_119; simp [q9])) (rfl) rfl
            · refine gx_aload_n (i := 3) hC dX6_aircraft_122 rfl rfl (by first | exact Or.inr ⟨_, rfl⟩ | exact Or.inl rfl | exact kv_isR | exact aref_isR) ?_
              refine gx_iload_n (i := 2) hC dX6_aircraft_123 rfl rfl ?_
              refine gx_callS1 hC dX6_aircraft_124 (c_X6_tellHolding _ _ gG hj_10 _) kY_X6_tellHolding kS_X6_tellHolding ml_X6_132 (by decide) rfl rfl rfl (by first | exact Nat.le_of_ble_eq_true rfl | (simp [Value.category, isR_cat kv_isR, isR_cat aref_isR]; done)) (Nat.le_refl _) (Nat.le_refl _) ?_
              refine gx_goto (tgt := 132) hC dX6_aircraft_127 (by decide) ?_
              exact gx_iret hC hQ dX6_aircraft_132 ((by unfold hAc; rw [c_10]; simp only; rw [if_neg (fun q => q.elim c_14 (Int32.not_le.mpr c_20))]; unfold hAcT; obtain rfl : x = 4 := x_of (k := 4) (by rw [hj]; rfl) (by decide); have q9 := of_decide_eq_true c_119; simp [q9])) (rfl) rfl
          | 5, hf =>
            obtain rfl : tg = 115 := by simp at hf; omega
            refine gx_aload_n (i := 3) hC dX6_aircraft_115 rfl rfl (by first | exact Or.inr ⟨_, rfl⟩ | exact Or.inl rfl | exact kv_isR | exact aref_isR) ?_
            refine gx_callV1 hC dX6_aircraft_116 (c_X0_isHolding _ _ (gG.now.ac hj_10)) kY_X0_isHolding kV_X0_isHolding ml_X6_126 (by first | exact gG.at0 | exact gG.at47 | exact gG.now.at | exact gG.ahd.at | exact gG.now.ac (by assumption) | exact gG.ahd.ac (by assumption)) rfl (by decide) rfl rfl rfl (by first | exact Nat.le_of_ble_eq_true rfl | (simp [Value.category, isR_cat kv_isR, isR_cat aref_isR]; done)) (Nat.le_refl _) (Nat.le_refl _) ?_
            refine gx_ifb_eq (tgt := 130) hC dX6_aircraft_119 (by decide) (fun c_119 => ?_) (fun c_119 => ?_)
            · refine gx_bipush (v := -6) hC dX6_aircraft_130 bp_m6 ?_
              exact gx_iret hC hQ dX6_aircraft_132 ((by unfold hAc; rw [c_10]; simp only; rw [if_neg (fun q => q.elim c_14 (Int32.not_le.mpr c_20))]; unfold hAcT; obtain rfl : x = 5 := x_of (k := 5) (by rw [hj]; rfl) (by decide); have q9 := of_decide_eq_false c_119; simp [q9])) (rfl) rfl
            · refine gx_aload_n (i := 3) hC dX6_aircraft_122 rfl rfl (by first | exact Or.inr ⟨_, rfl⟩ | exact Or.inl rfl | exact kv_isR | exact aref_isR) ?_
              refine gx_iload_n (i := 2) hC dX6_aircraft_123 rfl rfl ?_
              refine gx_callS1 hC dX6_aircraft_124 (c_X6_tellHolding _ _ gG hj_10 _) kY_X6_tellHolding kS_X6_tellHolding ml_X6_132 (by decide) rfl rfl rfl (by first | exact Nat.le_of_ble_eq_true rfl | (simp [Value.category, isR_cat kv_isR, isR_cat aref_isR]; done)) (Nat.le_refl _) (Nat.le_refl _) ?_
              refine gx_goto (tgt := 132) hC dX6_aircraft_127 (by decide) ?_
              exact gx_iret hC hQ dX6_aircraft_132 ((by unfold hAc; rw [c_10]; simp only; rw [if_neg (fun q => q.elim c_14 (Int32.not_le.mpr c_20))]; unfold hAcT; obtain rfl : x = 5 := x_of (k := 5) (by rw [hj]; rfl) (by decide); have q9 := of_decide_eq_true c_119; simp [q9])) (rfl) rfl
          | 6, hf =>
            obtain rfl : tg = 90 := by simp at hf; omega
            refine gx_aload_n (i := 3) hC dX6_aircraft_90 rfl rfl (by first | exact Or.inr ⟨_, rfl⟩ | exact Or.inl rfl | exact kv_isR | exact aref_isR) ?_
            refine gx_callV1 hC dX6_aircraft_91 (c_X0_isShort _ _ (gG.now.ac hj_10) (by have h9 := hW.kd hj_10; rw [getS_at (by omega)] at h9; exact h9)) kY_X0_isShort kV_X0_isShort ml_X6_122 (by first | exact gG.at0 | exact gG.at47 | exact gG.now.at | exact gG.ahd.at | exact gG.now.ac (by assumption) | exact gG.ahd.ac (by assumption)) rfl (by decide) rfl rfl rfl (by first | exact Nat.le_of_ble_eq_true rfl | (simp [Value.category, isR_cat kv_isR, isR_cat aref_isR]; done)) (Nat.le_refl _) (Nat.le_refl _) ?_
            refine gx_callS1 hC dX6_aircraft_94 (c_X6_asNumber _ _ (b2_bit _)) kY_X6_asNumber kS_X6_asNumber ml_X6_65 (by decide) rfl rfl rfl (by first | exact Nat.le_of_ble_eq_true rfl | (simp [Value.category, isR_cat kv_isR, isR_cat aref_isR]; done)) (Nat.le_refl _) (Nat.le_refl _) ?_
            exact gx_iret hC hQ dX6_aircraft_97 ((by unfold hAc; rw [c_10]; simp only; rw [if_neg (fun q => q.elim c_14 (Int32.not_le.mpr c_20))]; unfold hAcT; obtain rfl : x = 6 := x_of (k := 6) (by rw [hj]; rfl) (by decide); simp [kFld])) (rfl) rfl
          | 7, hf =>
            obtain rfl : tg = 98 := by simp at hf; omega
            refine gx_aload_n (i := 3) hC dX6_aircraft_98 rfl rfl (by first | exact Or.inr ⟨_, rfl⟩ | exact Or.inl rfl | exact kv_isR | exact aref_isR) ?_
            refine gx_callV1 hC dX6_aircraft_99 (c_X0_isHolding _ _ (gG.now.ac hj_10)) kY_X0_isHolding kV_X0_isHolding ml_X6_126 (by first | exact gG.at0 | exact gG.at47 | exact gG.now.at | exact gG.ahd.at | exact gG.now.ac (by assumption) | exact gG.ahd.ac (by assumption)) rfl (by decide) rfl rfl rfl (by first | exact Nat.le_of_ble_eq_true rfl | (simp [Value.category, isR_cat kv_isR, isR_cat aref_isR]; done)) (Nat.le_refl _) (Nat.le_refl _) ?_
            refine gx_ifb_eq (tgt := 110) hC dX6_aircraft_102 (by decide) (fun c_102 => ?_) (fun c_102 => ?_)
            · refine gx_aload_n (i := 3) hC dX6_aircraft_110 rfl rfl (by first | exact Or.inr ⟨_, rfl⟩ | exact Or.inl rfl | exact kv_isR | exact aref_isR) ?_
              refine gx_getI hC dX6_aircraft_111 fl_X6_129 (by first | exact gG.at0 | exact gG.at47 | exact gG.now.at | exact gG.ahd.at | exact gG.now.ac (by assumption) | exact gG.ahd.ac (by assumption)) (by decide) (rfl) ?_
              exact gx_iret hC hQ dX6_aircraft_114 ((by unfold hAc; rw [c_10]; simp only; rw [if_neg (fun q => q.elim c_14 (Int32.not_le.mpr c_20))]; unfold hAcT; obtain rfl : x = 7 := x_of (k := 7) (by rw [hj]; rfl) (by decide); have q9 := of_decide_eq_false c_102; simp [q9])) (rfl) rfl
            · refine gx_bipush (v := -6) hC dX6_aircraft_105 bp_m6 ?_
              refine gx_goto (tgt := 114) hC dX6_aircraft_107 (by decide) ?_
              exact gx_iret hC hQ dX6_aircraft_114 ((by unfold hAc; rw [c_10]; simp only; rw [if_neg (fun q => q.elim c_14 (Int32.not_le.mpr c_20))]; unfold hAcT; obtain rfl : x = 7 := x_of (k := 7) (by rw [hj]; rfl) (by decide); have q9 := of_decide_eq_true c_102; simp [q9])) (rfl) rfl
          | q + 8, hf => simp at hf
      · refine gx_iconst (v := -1) hC dX6_aircraft_23 ic_m1 ?_
        exact gx_iret hC hQ dX6_aircraft_24 ((by unfold hAc; rw [c_10]; simp only; rw [if_pos (Or.inr (Int32.not_lt.mp c_20))])) (rfl) rfl
def hTlT (M : hMem) (c : Nat) (x : Int32) : Int32 := if x = 0 then M 1 9 else if x = 1 then M 1 3 else if x = 2 then M 1 4 else if x = 7 then M 1 10 else if x = 8 then M 1 8 else if x = 9 then M 1 6 else if x = 10 then M 1 7 else if x = 11 then M 1 5 else if x = 16 then M 1 15 else if x = 17 then M 47 1
  else if x < 7 then tN M c x else tF M x
def hTl (M : hMem) (c : Nat) (x : Int32) : Int32 := if x < 0 ∨ 18 ≤ x then -1 else hTlT M c x
theorem i32c_18 : (18 : Int32).toInt = 18 := by decide
set_option maxHeartbeats 4000000 in
set_option maxRecDepth 20000 in
theorem c_X6_tell (l : Launch) (z : hZt) {n : Nat} {M : hMem} {R : hRef} (gG : GS n R) {lv c : Nat} (hW : SW (getS M 1) lv c) (x : Int32) : hCt l z m_X6_tell [.ref (z.1 + 0), .int x] n M R n (some (.int (hTl M c x))) M R := by
  refine hs_start [some (.ref (z.1 + 0)), some (.int x)] (by decide +kernel) rfl (by intro u hu; simp at hu; rcases hu with rfl | rfl <;> first | rfl | exact isR_cat kv_isR | exact isR_cat aref_isR) (Nat.le_of_ble_eq_true rfl) (Nat.le_refl _) (fun X hlX hN hC hQ => ?_)
  dsimp only at hC hQ
  refine gx_iload_n (i := 1) hC dX6_tell_0 rfl rfl ?_
  refine gx_if_lt (tgt := 10) hC dX6_tell_1 (by decide) (fun c_1 => ?_) (fun c_1 => ?_)
  · refine gx_iconst (v := -1) hC dX6_tell_10 ic_m1 ?_
    exact gx_iret hC hQ dX6_tell_11 ((by unfold hTl; rw [if_pos (Or.inl c_1)])) (rfl) rfl
  · refine gx_iload_n (i := 1) hC dX6_tell_4 rfl rfl ?_
    refine gx_bipush (v := 18) hC dX6_tell_5 bp_18 ?_
    refine gx_icmp_lt (tgt := 12) hC dX6_tell_7 (by decide) (fun c_7 => ?_) (fun c_7 => ?_)
    · refine gx_iload_n (i := 1) hC dX6_tell_12 rfl rfl ?_
      refine gx_table hC dX6_tell_13 (by decide) (fun c_13 tg ht => ?_) (fun j f hf hj tg ht => ?_) (by decide)
      · exfalso; clear hQ hC hN hlX; simp only [Int32.le_iff_toInt_le, Int32.lt_iff_toInt_lt, Int32.not_le, Int32.not_lt, ← Int32.toInt_inj, i32c_0, i32c_1, i32c_2, i32c_3, i32c_4, i32c_5, i32c_6, i32c_7, i32c_8, i32c_9, i32c_16, i32c_20, i32c_99, i32c_m1, i32c_m6, ni_16, ni_20, ni_80, ni_2, ni_5, ni_0, ne_eq, i32c_18] at *; omega
      · match j, hf with
        | 0, hf =>
          obtain rfl : tg = 100 := by simp at hf; omega
          refine gx_aload_n (i := 0) hC dX6_tell_100 rfl rfl (by first | exact Or.inr ⟨_, rfl⟩ | exact Or.inl rfl | exact kv_isR | exact aref_isR) ?_
          refine gx_getR hC dX6_tell_101 fl_X6_10 (by first | exact gG.at0 | exact gG.at47 | exact gG.now.at | exact gG.ahd.at | exact gG.now.ac (by assumption) | exact gG.ahd.ac (by assumption)) rfl (gG.r0) (by decide) ?_
          refine gx_getI hC dX6_tell_104 fl_X6_136 (by first | exact gG.at0 | exact gG.at47 | exact gG.now.at | exact gG.ahd.at | exact gG.now.ac (by assumption) | exact gG.ahd.ac (by assumption)) (by decide) (rfl) ?_
          exact gx_iret hC hQ dX6_tell_107 ((by unfold hTl; rw [if_neg (fun q => q.elim c_1 (Int32.not_le.mpr c_7))]; unfold hTlT; obtain rfl : x = 0 := x_of (k := 0) (by rw [hj]; rfl) (by decide); first | rfl | (simp; done) | (exfalso; revert c_189; decide))) (rfl) rfl
        | 1, hf =>
          obtain rfl : tg = 108 := by simp at hf; omega
          refine gx_aload_n (i := 0) hC dX6_tell_108 rfl rfl (by first | exact Or.inr ⟨_, rfl⟩ | exact Or.inl rfl | exact kv_isR | exact aref_isR) ?_
          refine gx_getR hC dX6_tell_109 fl_X6_10 (by first | exact gG.at0 | exact gG.at47 | exact gG.now.at | exact gG.ahd.at | exact gG.now.ac (by assumption) | exact gG.ahd.ac (by assumption)) rfl (gG.r0) (by decide) ?_
          refine gx_getI hC dX6_tell_112 fl_X6_44 (by first | exact gG.at0 | exact gG.at47 | exact gG.now.at | exact gG.ahd.at | exact gG.now.ac (by assumption) | exact gG.ahd.ac (by assumption)) (by decide) (rfl) ?_
          exact gx_iret hC hQ dX6_tell_115 ((by unfold hTl; rw [if_neg (fun q => q.elim c_1 (Int32.not_le.mpr c_7))]; unfold hTlT; obtain rfl : x = 1 := x_of (k := 1) (by rw [hj]; rfl) (by decide); first | rfl | (simp; done) | (exfalso; revert c_189; decide))) (rfl) rfl
        | 2, hf =>
          obtain rfl : tg = 116 := by simp at hf; omega
          refine gx_aload_n (i := 0) hC dX6_tell_116 rfl rfl (by first | exact Or.inr ⟨_, rfl⟩ | exact Or.inl rfl | exact kv_isR | exact aref_isR) ?_
          refine gx_getR hC dX6_tell_117 fl_X6_10 (by first | exact gG.at0 | exact gG.at47 | exact gG.now.at | exact gG.ahd.at | exact gG.now.ac (by assumption) | exact gG.ahd.ac (by assumption)) rfl (gG.r0) (by decide) ?_
          refine gx_getI hC dX6_tell_120 fl_X6_52 (by first | exact gG.at0 | exact gG.at47 | exact gG.now.at | exact gG.ahd.at | exact gG.now.ac (by assumption) | exact gG.ahd.ac (by assumption)) (by decide) (rfl) ?_
          exact gx_iret hC hQ dX6_tell_123 ((by unfold hTl; rw [if_neg (fun q => q.elim c_1 (Int32.not_le.mpr c_7))]; unfold hTlT; obtain rfl : x = 2 := x_of (k := 2) (by rw [hj]; rfl) (by decide); first | rfl | (simp; done) | (exfalso; revert c_189; decide))) (rfl) rfl
        | 3, hf =>
          obtain rfl : tg = 186 := by simp at hf; omega
          refine gx_iload_n (i := 1) hC dX6_tell_186 rfl rfl ?_
          refine gx_bipush (v := 7) hC dX6_tell_187 bp_7 ?_
          refine gx_icmp_ge (tgt := 200) hC dX6_tell_189 (by decide) (fun c_189 => ?_) (fun c_189 => ?_)
          · refine gx_aload_n (i := 0) hC dX6_tell_200 rfl rfl (by first | exact Or.inr ⟨_, rfl⟩ | exact Or.inl rfl | exact kv_isR | exact aref_isR) ?_
            refine gx_iload_n (i := 1) hC dX6_tell_201 rfl rfl ?_
            refine gx_callV1 hC dX6_tell_202 (c_X6_tellFuel _ _ gG _) kY_X6_tellFuel kV_X6_tellFuel ml_X6_154 (by first | exact gG.at0 | exact gG.at47 | exact gG.now.at | exact gG.ahd.at | exact gG.now.ac (by assumption) | exact gG.ahd.ac (by assumption)) rfl (by decide) rfl rfl rfl (by first | exact Nat.le_of_ble_eq_true rfl | (simp [Value.category, isR_cat kv_isR, isR_cat aref_isR]; done)) (Nat.le_refl _) (Nat.le_refl _) ?_
            exact gx_iret hC hQ dX6_tell_205 ((by unfold hTl; rw [if_neg (fun q => q.elim c_1 (Int32.not_le.mpr c_7))]; unfold hTlT; obtain rfl : x = 3 := x_of (k := 3) (by rw [hj]; rfl) (by decide); first | rfl | (simp; done) | (exfalso; revert c_189; decide))) (rfl) rfl
          · refine gx_aload_n (i := 0) hC dX6_tell_192 rfl rfl (by first | exact Or.inr ⟨_, rfl⟩ | exact Or.inl rfl | exact kv_isR | exact aref_isR) ?_
            refine gx_iload_n (i := 1) hC dX6_tell_193 rfl rfl ?_
            refine gx_callV1 hC dX6_tell_194 (c_X6_tellNumberOfAircraft _ _ gG hW _) kY_X6_tellNumberOfAircraft kV_X6_tellNumberOfAircraft ml_X6_151 (by first | exact gG.at0 | exact gG.at47 | exact gG.now.at | exact gG.ahd.at | exact gG.now.ac (by assumption) | exact gG.ahd.ac (by assumption)) rfl (by decide) rfl rfl rfl (by first | exact Nat.le_of_ble_eq_true rfl | (simp [Value.category, isR_cat kv_isR, isR_cat aref_isR]; done)) (Nat.le_refl _) (Nat.le_refl _) ?_
            refine gx_goto (tgt := 205) hC dX6_tell_197 (by decide) ?_
            exact gx_iret hC hQ dX6_tell_205 ((by unfold hTl; rw [if_neg (fun q => q.elim c_1 (Int32.not_le.mpr c_7))]; unfold hTlT; obtain rfl : x = 3 := x_of (k := 3) (by rw [hj]; rfl) (by decide); first | rfl | (simp; done) | (exfalso; revert c_189; decide))) (rfl) rfl
        | 4, hf =>
          obtain rfl : tg = 186 := by simp at hf; omega
          refine gx_iload_n (i := 1) hC dX6_tell_186 rfl rfl ?_
          refine gx_bipush (v := 7) hC dX6_tell_187 bp_7 ?_
          refine gx_icmp_ge (tgt := 200) hC dX6_tell_189 (by decide) (fun c_189 => ?_) (fun c_189 => ?_)
          · refine gx_aload_n (i := 0) hC dX6_tell_200 rfl rfl (by first | exact Or.inr ⟨_, rfl⟩ | exact Or.inl rfl | exact kv_isR | exact aref_isR) ?_
            refine gx_iload_n (i := 1) hC dX6_tell_201 rfl rfl ?_
            refine gx_callV1 hC dX6_tell_202 (c_X6_tellFuel _ _ gG _) kY_X6_tellFuel kV_X6_tellFuel ml_X6_154 (by first | exact gG.at0 | exact gG.at47 | exact gG.now.at | exact gG.ahd.at | exact gG.now.ac (by assumption) | exact gG.ahd.ac (by assumption)) rfl (by decide) rfl rfl rfl (by first | exact Nat.le_of_ble_eq_true rfl | (simp [Value.category, isR_cat kv_isR, isR_cat aref_isR]; done)) (Nat.le_refl _) (Nat.le_refl _) ?_
            exact gx_iret hC hQ dX6_tell_205 ((by unfold hTl; rw [if_neg (fun q => q.elim c_1 (Int32.not_le.mpr c_7))]; unfold hTlT; obtain rfl : x = 4 := x_of (k := 4) (by rw [hj]; rfl) (by decide); first | rfl | (simp; done) | (exfalso; revert c_189; decide))) (rfl) rfl
          · refine gx_aload_n (i := 0) hC dX6_tell_192 rfl rfl (by first | exact Or.inr ⟨_, rfl⟩ | exact Or.inl rfl | exact kv_isR | exact aref_isR) ?_
            refine gx_iload_n (i := 1) hC dX6_tell_193 rfl rfl ?_
            refine gx_callV1 hC dX6_tell_194 (c_X6_tellNumberOfAircraft _ _ gG hW _) kY_X6_tellNumberOfAircraft kV_X6_tellNumberOfAircraft ml_X6_151 (by first | exact gG.at0 | exact gG.at47 | exact gG.now.at | exact gG.ahd.at | exact gG.now.ac (by assumption) | exact gG.ahd.ac (by assumption)) rfl (by decide) rfl rfl rfl (by first | exact Nat.le_of_ble_eq_true rfl | (simp [Value.category, isR_cat kv_isR, isR_cat aref_isR]; done)) (Nat.le_refl _) (Nat.le_refl _) ?_
            refine gx_goto (tgt := 205) hC dX6_tell_197 (by decide) ?_
            exact gx_iret hC hQ dX6_tell_205 ((by unfold hTl; rw [if_neg (fun q => q.elim c_1 (Int32.not_le.mpr c_7))]; unfold hTlT; obtain rfl : x = 4 := x_of (k := 4) (by rw [hj]; rfl) (by decide); first | rfl | (simp; done) | (exfalso; revert c_189; decide))) (rfl) rfl
        | 5, hf =>
          obtain rfl : tg = 186 := by simp at hf; omega
          refine gx_iload_n (i := 1) hC dX6_tell_186 rfl rfl ?_
          refine gx_bipush (v := 7) hC dX6_tell_187 bp_7 ?_
          refine gx_icmp_ge (tgt := 200) hC dX6_tell_189 (by decide) (fun c_189 => ?_) (fun c_189 => ?_)
          · refine gx_aload_n (i := 0) hC dX6_tell_200 rfl rfl (by first | exact Or.inr ⟨_, rfl⟩ | exact Or.inl rfl | exact kv_isR | exact aref_isR) ?_
            refine gx_iload_n (i := 1) hC dX6_tell_201 rfl rfl ?_
            refine gx_callV1 hC dX6_tell_202 (c_X6_tellFuel _ _ gG _) kY_X6_tellFuel kV_X6_tellFuel ml_X6_154 (by first | exact gG.at0 | exact gG.at47 | exact gG.now.at | exact gG.ahd.at | exact gG.now.ac (by assumption) | exact gG.ahd.ac (by assumption)) rfl (by decide) rfl rfl rfl (by first | exact Nat.le_of_ble_eq_true rfl | (simp [Value.category, isR_cat kv_isR, isR_cat aref_isR]; done)) (Nat.le_refl _) (Nat.le_refl _) ?_
            exact gx_iret hC hQ dX6_tell_205 ((by unfold hTl; rw [if_neg (fun q => q.elim c_1 (Int32.not_le.mpr c_7))]; unfold hTlT; obtain rfl : x = 5 := x_of (k := 5) (by rw [hj]; rfl) (by decide); first | rfl | (simp; done) | (exfalso; revert c_189; decide))) (rfl) rfl
          · refine gx_aload_n (i := 0) hC dX6_tell_192 rfl rfl (by first | exact Or.inr ⟨_, rfl⟩ | exact Or.inl rfl | exact kv_isR | exact aref_isR) ?_
            refine gx_iload_n (i := 1) hC dX6_tell_193 rfl rfl ?_
            refine gx_callV1 hC dX6_tell_194 (c_X6_tellNumberOfAircraft _ _ gG hW _) kY_X6_tellNumberOfAircraft kV_X6_tellNumberOfAircraft ml_X6_151 (by first | exact gG.at0 | exact gG.at47 | exact gG.now.at | exact gG.ahd.at | exact gG.now.ac (by assumption) | exact gG.ahd.ac (by assumption)) rfl (by decide) rfl rfl rfl (by first | exact Nat.le_of_ble_eq_true rfl | (simp [Value.category, isR_cat kv_isR, isR_cat aref_isR]; done)) (Nat.le_refl _) (Nat.le_refl _) ?_
            refine gx_goto (tgt := 205) hC dX6_tell_197 (by decide) ?_
            exact gx_iret hC hQ dX6_tell_205 ((by unfold hTl; rw [if_neg (fun q => q.elim c_1 (Int32.not_le.mpr c_7))]; unfold hTlT; obtain rfl : x = 5 := x_of (k := 5) (by rw [hj]; rfl) (by decide); first | rfl | (simp; done) | (exfalso; revert c_189; decide))) (rfl) rfl
        | 6, hf =>
          obtain rfl : tg = 186 := by simp at hf; omega
          refine gx_iload_n (i := 1) hC dX6_tell_186 rfl rfl ?_
          refine gx_bipush (v := 7) hC dX6_tell_187 bp_7 ?_
          refine gx_icmp_ge (tgt := 200) hC dX6_tell_189 (by decide) (fun c_189 => ?_) (fun c_189 => ?_)
          · refine gx_aload_n (i := 0) hC dX6_tell_200 rfl rfl (by first | exact Or.inr ⟨_, rfl⟩ | exact Or.inl rfl | exact kv_isR | exact aref_isR) ?_
            refine gx_iload_n (i := 1) hC dX6_tell_201 rfl rfl ?_
            refine gx_callV1 hC dX6_tell_202 (c_X6_tellFuel _ _ gG _) kY_X6_tellFuel kV_X6_tellFuel ml_X6_154 (by first | exact gG.at0 | exact gG.at47 | exact gG.now.at | exact gG.ahd.at | exact gG.now.ac (by assumption) | exact gG.ahd.ac (by assumption)) rfl (by decide) rfl rfl rfl (by first | exact Nat.le_of_ble_eq_true rfl | (simp [Value.category, isR_cat kv_isR, isR_cat aref_isR]; done)) (Nat.le_refl _) (Nat.le_refl _) ?_
            exact gx_iret hC hQ dX6_tell_205 ((by unfold hTl; rw [if_neg (fun q => q.elim c_1 (Int32.not_le.mpr c_7))]; unfold hTlT; obtain rfl : x = 6 := x_of (k := 6) (by rw [hj]; rfl) (by decide); first | rfl | (simp; done) | (exfalso; revert c_189; decide))) (rfl) rfl
          · refine gx_aload_n (i := 0) hC dX6_tell_192 rfl rfl (by first | exact Or.inr ⟨_, rfl⟩ | exact Or.inl rfl | exact kv_isR | exact aref_isR) ?_
            refine gx_iload_n (i := 1) hC dX6_tell_193 rfl rfl ?_
            refine gx_callV1 hC dX6_tell_194 (c_X6_tellNumberOfAircraft _ _ gG hW _) kY_X6_tellNumberOfAircraft kV_X6_tellNumberOfAircraft ml_X6_151 (by first | exact gG.at0 | exact gG.at47 | exact gG.now.at | exact gG.ahd.at | exact gG.now.ac (by assumption) | exact gG.ahd.ac (by assumption)) rfl (by decide) rfl rfl rfl (by first | exact Nat.le_of_ble_eq_true rfl | (simp [Value.category, isR_cat kv_isR, isR_cat aref_isR]; done)) (Nat.le_refl _) (Nat.le_refl _) ?_
            refine gx_goto (tgt := 205) hC dX6_tell_197 (by decide) ?_
            exact gx_iret hC hQ dX6_tell_205 ((by unfold hTl; rw [if_neg (fun q => q.elim c_1 (Int32.not_le.mpr c_7))]; unfold hTlT; obtain rfl : x = 6 := x_of (k := 6) (by rw [hj]; rfl) (by decide); first | rfl | (simp; done) | (exfalso; revert c_189; decide))) (rfl) rfl
        | 7, hf =>
          obtain rfl : tg = 124 := by simp at hf; omega
          refine gx_aload_n (i := 0) hC dX6_tell_124 rfl rfl (by first | exact Or.inr ⟨_, rfl⟩ | exact Or.inl rfl | exact kv_isR | exact aref_isR) ?_
          refine gx_getR hC dX6_tell_125 fl_X6_10 (by first | exact gG.at0 | exact gG.at47 | exact gG.now.at | exact gG.ahd.at | exact gG.now.ac (by assumption) | exact gG.ahd.ac (by assumption)) rfl (gG.r0) (by decide) ?_
          refine gx_getI hC dX6_tell_128 fl_X6_139 (by first | exact gG.at0 | exact gG.at47 | exact gG.now.at | exact gG.ahd.at | exact gG.now.ac (by assumption) | exact gG.ahd.ac (by assumption)) (by decide) (rfl) ?_
          exact gx_iret hC hQ dX6_tell_131 ((by unfold hTl; rw [if_neg (fun q => q.elim c_1 (Int32.not_le.mpr c_7))]; unfold hTlT; obtain rfl : x = 7 := x_of (k := 7) (by rw [hj]; rfl) (by decide); first | rfl | (simp; done) | (exfalso; revert c_189; decide))) (rfl) rfl
        | 8, hf =>
          obtain rfl : tg = 132 := by simp at hf; omega
          refine gx_aload_n (i := 0) hC dX6_tell_132 rfl rfl (by first | exact Or.inr ⟨_, rfl⟩ | exact Or.inl rfl | exact kv_isR | exact aref_isR) ?_
          refine gx_getR hC dX6_tell_133 fl_X6_10 (by first | exact gG.at0 | exact gG.at47 | exact gG.now.at | exact gG.ahd.at | exact gG.now.ac (by assumption) | exact gG.ahd.ac (by assumption)) rfl (gG.r0) (by decide) ?_
          refine gx_getI hC dX6_tell_136 fl_X6_142 (by first | exact gG.at0 | exact gG.at47 | exact gG.now.at | exact gG.ahd.at | exact gG.now.ac (by assumption) | exact gG.ahd.ac (by assumption)) (by decide) (rfl) ?_
          exact gx_iret hC hQ dX6_tell_139 ((by unfold hTl; rw [if_neg (fun q => q.elim c_1 (Int32.not_le.mpr c_7))]; unfold hTlT; obtain rfl : x = 8 := x_of (k := 8) (by rw [hj]; rfl) (by decide); first | rfl | (simp; done) | (exfalso; revert c_189; decide))) (rfl) rfl
        | 9, hf =>
          obtain rfl : tg = 140 := by simp at hf; omega
          refine gx_aload_n (i := 0) hC dX6_tell_140 rfl rfl (by first | exact Or.inr ⟨_, rfl⟩ | exact Or.inl rfl | exact kv_isR | exact aref_isR) ?_
          refine gx_getR hC dX6_tell_141 fl_X6_10 (by first | exact gG.at0 | exact gG.at47 | exact gG.now.at | exact gG.ahd.at | exact gG.now.ac (by assumption) | exact gG.ahd.ac (by assumption)) rfl (gG.r0) (by decide) ?_
          refine gx_getZ hC dX6_tell_144 fl_X6_61 (by first | exact gG.at0 | exact gG.at47 | exact gG.now.at | exact gG.ahd.at | exact gG.now.ac (by assumption) | exact gG.ahd.ac (by assumption)) rfl (rfl) (fun hz_144 => ?_)
          refine gx_callS1 hC dX6_tell_147 (c_X6_asNumber _ _ (by assumption)) kY_X6_asNumber kS_X6_asNumber ml_X6_65 (by decide) rfl rfl rfl (by first | exact Nat.le_of_ble_eq_true rfl | (simp [Value.category, isR_cat kv_isR, isR_cat aref_isR]; done)) (Nat.le_refl _) (Nat.le_refl _) ?_
          exact gx_iret hC hQ dX6_tell_150 ((by unfold hTl; rw [if_neg (fun q => q.elim c_1 (Int32.not_le.mpr c_7))]; unfold hTlT; obtain rfl : x = 9 := x_of (k := 9) (by rw [hj]; rfl) (by decide); first | rfl | (simp; done) | (exfalso; revert c_189; decide))) (rfl) rfl
        | 10, hf =>
          obtain rfl : tg = 151 := by simp at hf; omega
          refine gx_aload_n (i := 0) hC dX6_tell_151 rfl rfl (by first | exact Or.inr ⟨_, rfl⟩ | exact Or.inl rfl | exact kv_isR | exact aref_isR) ?_
          refine gx_getR hC dX6_tell_152 fl_X6_10 (by first | exact gG.at0 | exact gG.at47 | exact gG.now.at | exact gG.ahd.at | exact gG.now.ac (by assumption) | exact gG.ahd.ac (by assumption)) rfl (gG.r0) (by decide) ?_
          refine gx_getZ hC dX6_tell_155 fl_X6_69 (by first | exact gG.at0 | exact gG.at47 | exact gG.now.at | exact gG.ahd.at | exact gG.now.ac (by assumption) | exact gG.ahd.ac (by assumption)) rfl (rfl) (fun hz_155 => ?_)
          refine gx_callS1 hC dX6_tell_158 (c_X6_asNumber _ _ (by assumption)) kY_X6_asNumber kS_X6_asNumber ml_X6_65 (by decide) rfl rfl rfl (by first | exact Nat.le_of_ble_eq_true rfl | (simp [Value.category, isR_cat kv_isR, isR_cat aref_isR]; done)) (Nat.le_refl _) (Nat.le_refl _) ?_
          exact gx_iret hC hQ dX6_tell_161 ((by unfold hTl; rw [if_neg (fun q => q.elim c_1 (Int32.not_le.mpr c_7))]; unfold hTlT; obtain rfl : x = 10 := x_of (k := 10) (by rw [hj]; rfl) (by decide); first | rfl | (simp; done) | (exfalso; revert c_189; decide))) (rfl) rfl
        | 11, hf =>
          obtain rfl : tg = 162 := by simp at hf; omega
          refine gx_aload_n (i := 0) hC dX6_tell_162 rfl rfl (by first | exact Or.inr ⟨_, rfl⟩ | exact Or.inl rfl | exact kv_isR | exact aref_isR) ?_
          refine gx_getR hC dX6_tell_163 fl_X6_10 (by first | exact gG.at0 | exact gG.at47 | exact gG.now.at | exact gG.ahd.at | exact gG.now.ac (by assumption) | exact gG.ahd.ac (by assumption)) rfl (gG.r0) (by decide) ?_
          refine gx_getI hC dX6_tell_166 fl_X6_58 (by first | exact gG.at0 | exact gG.at47 | exact gG.now.at | exact gG.ahd.at | exact gG.now.ac (by assumption) | exact gG.ahd.ac (by assumption)) (by decide) (rfl) ?_
          exact gx_iret hC hQ dX6_tell_169 ((by unfold hTl; rw [if_neg (fun q => q.elim c_1 (Int32.not_le.mpr c_7))]; unfold hTlT; obtain rfl : x = 11 := x_of (k := 11) (by rw [hj]; rfl) (by decide); first | rfl | (simp; done) | (exfalso; revert c_189; decide))) (rfl) rfl
        | 12, hf =>
          obtain rfl : tg = 186 := by simp at hf; omega
          refine gx_iload_n (i := 1) hC dX6_tell_186 rfl rfl ?_
          refine gx_bipush (v := 7) hC dX6_tell_187 bp_7 ?_
          refine gx_icmp_ge (tgt := 200) hC dX6_tell_189 (by decide) (fun c_189 => ?_) (fun c_189 => ?_)
          · refine gx_aload_n (i := 0) hC dX6_tell_200 rfl rfl (by first | exact Or.inr ⟨_, rfl⟩ | exact Or.inl rfl | exact kv_isR | exact aref_isR) ?_
            refine gx_iload_n (i := 1) hC dX6_tell_201 rfl rfl ?_
            refine gx_callV1 hC dX6_tell_202 (c_X6_tellFuel _ _ gG _) kY_X6_tellFuel kV_X6_tellFuel ml_X6_154 (by first | exact gG.at0 | exact gG.at47 | exact gG.now.at | exact gG.ahd.at | exact gG.now.ac (by assumption) | exact gG.ahd.ac (by assumption)) rfl (by decide) rfl rfl rfl (by first | exact Nat.le_of_ble_eq_true rfl | (simp [Value.category, isR_cat kv_isR, isR_cat aref_isR]; done)) (Nat.le_refl _) (Nat.le_refl _) ?_
            exact gx_iret hC hQ dX6_tell_205 ((by unfold hTl; rw [if_neg (fun q => q.elim c_1 (Int32.not_le.mpr c_7))]; unfold hTlT; obtain rfl : x = 12 := x_of (k := 12) (by rw [hj]; rfl) (by decide); first | rfl | (simp; done) | (exfalso; revert c_189; decide))) (rfl) rfl
          · refine gx_aload_n (i := 0) hC dX6_tell_192 rfl rfl (by first | exact Or.inr ⟨_, rfl⟩ | exact Or.inl rfl | exact kv_isR | exact aref_isR) ?_
            refine gx_iload_n (i := 1) hC dX6_tell_193 rfl rfl ?_
            refine gx_callV1 hC dX6_tell_194 (c_X6_tellNumberOfAircraft _ _ gG hW _) kY_X6_tellNumberOfAircraft kV_X6_tellNumberOfAircraft ml_X6_151 (by first | exact gG.at0 | exact gG.at47 | exact gG.now.at | exact gG.ahd.at | exact gG.now.ac (by assumption) | exact gG.ahd.ac (by assumption)) rfl (by decide) rfl rfl rfl (by first | exact Nat.le_of_ble_eq_true rfl | (simp [Value.category, isR_cat kv_isR, isR_cat aref_isR]; done)) (Nat.le_refl _) (Nat.le_refl _) ?_
            refine gx_goto (tgt := 205) hC dX6_tell_197 (by decide) ?_
            exact gx_iret hC hQ dX6_tell_205 ((by unfold hTl; rw [if_neg (fun q => q.elim c_1 (Int32.not_le.mpr c_7))]; unfold hTlT; obtain rfl : x = 12 := x_of (k := 12) (by rw [hj]; rfl) (by decide); first | rfl | (simp; done) | (exfalso; revert c_189; decide))) (rfl) rfl
        | 13, hf =>
          obtain rfl : tg = 186 := by simp at hf; omega
          refine gx_iload_n (i := 1) hC dX6_tell_186 rfl rfl ?_
          refine gx_bipush (v := 7) hC dX6_tell_187 bp_7 ?_
          refine gx_icmp_ge (tgt := 200) hC dX6_tell_189 (by decide) (fun c_189 => ?_) (fun c_189 => ?_)
          · refine gx_aload_n (i := 0) hC dX6_tell_200 rfl rfl (by first | exact Or.inr ⟨_, rfl⟩ | exact Or.inl rfl | exact kv_isR | exact aref_isR) ?_
            refine gx_iload_n (i := 1) hC dX6_tell_201 rfl rfl ?_
            refine gx_callV1 hC dX6_tell_202 (c_X6_tellFuel _ _ gG _) kY_X6_tellFuel kV_X6_tellFuel ml_X6_154 (by first | exact gG.at0 | exact gG.at47 | exact gG.now.at | exact gG.ahd.at | exact gG.now.ac (by assumption) | exact gG.ahd.ac (by assumption)) rfl (by decide) rfl rfl rfl (by first | exact Nat.le_of_ble_eq_true rfl | (simp [Value.category, isR_cat kv_isR, isR_cat aref_isR]; done)) (Nat.le_refl _) (Nat.le_refl _) ?_
            exact gx_iret hC hQ dX6_tell_205 ((by unfold hTl; rw [if_neg (fun q => q.elim c_1 (Int32.not_le.mpr c_7))]; unfold hTlT; obtain rfl : x = 13 := x_of (k := 13) (by rw [hj]; rfl) (by decide); first | rfl | (simp; done) | (exfalso; revert c_189; decide))) (rfl) rfl
          · refine gx_aload_n (i := 0) hC dX6_tell_192 rfl rfl (by first | exact Or.inr ⟨_, rfl⟩ | exact Or.inl rfl | exact kv_isR | exact aref_isR) ?_
            refine gx_iload_n (i := 1) hC dX6_tell_193 rfl rfl ?_
            refine gx_callV1 hC dX6_tell_194 (c_X6_tellNumberOfAircraft _ _ gG hW _) kY_X6_tellNumberOfAircraft kV_X6_tellNumberOfAircraft ml_X6_151 (by first | exact gG.at0 | exact gG.at47 | exact gG.now.at | exact gG.ahd.at | exact gG.now.ac (by assumption) | exact gG.ahd.ac (by assumption)) rfl (by decide) rfl rfl rfl (by first | exact Nat.le_of_ble_eq_true rfl | (simp [Value.category, isR_cat kv_isR, isR_cat aref_isR]; done)) (Nat.le_refl _) (Nat.le_refl _) ?_
            refine gx_goto (tgt := 205) hC dX6_tell_197 (by decide) ?_
            exact gx_iret hC hQ dX6_tell_205 ((by unfold hTl; rw [if_neg (fun q => q.elim c_1 (Int32.not_le.mpr c_7))]; unfold hTlT; obtain rfl : x = 13 := x_of (k := 13) (by rw [hj]; rfl) (by decide); first | rfl | (simp; done) | (exfalso; revert c_189; decide))) (rfl) rfl
        | 14, hf =>
          obtain rfl : tg = 186 := by simp at hf; omega
          refine gx_iload_n (i := 1) hC dX6_tell_186 rfl rfl ?_
          refine gx_bipush (v := 7) hC dX6_tell_187 bp_7 ?_
          refine gx_icmp_ge (tgt := 200) hC dX6_tell_189 (by decide) (fun c_189 => ?_) (fun c_189 => ?_)
          · refine gx_aload_n (i := 0) hC dX6_tell_200 rfl rfl (by first | exact Or.inr ⟨_, rfl⟩ | exact Or.inl rfl | exact kv_isR | exact aref_isR) ?_
            refine gx_iload_n (i := 1) hC dX6_tell_201 rfl rfl ?_
            refine gx_callV1 hC dX6_tell_202 (c_X6_tellFuel _ _ gG _) kY_X6_tellFuel kV_X6_tellFuel ml_X6_154 (by first | exact gG.at0 | exact gG.at47 | exact gG.now.at | exact gG.ahd.at | exact gG.now.ac (by assumption) | exact gG.ahd.ac (by assumption)) rfl (by decide) rfl rfl rfl (by first | exact Nat.le_of_ble_eq_true rfl | (simp [Value.category, isR_cat kv_isR, isR_cat aref_isR]; done)) (Nat.le_refl _) (Nat.le_refl _) ?_
            exact gx_iret hC hQ dX6_tell_205 ((by unfold hTl; rw [if_neg (fun q => q.elim c_1 (Int32.not_le.mpr c_7))]; unfold hTlT; obtain rfl : x = 14 := x_of (k := 14) (by rw [hj]; rfl) (by decide); first | rfl | (simp; done) | (exfalso; revert c_189; decide))) (rfl) rfl
          · refine gx_aload_n (i := 0) hC dX6_tell_192 rfl rfl (by first | exact Or.inr ⟨_, rfl⟩ | exact Or.inl rfl | exact kv_isR | exact aref_isR) ?_
            refine gx_iload_n (i := 1) hC dX6_tell_193 rfl rfl ?_
            refine gx_callV1 hC dX6_tell_194 (c_X6_tellNumberOfAircraft _ _ gG hW _) kY_X6_tellNumberOfAircraft kV_X6_tellNumberOfAircraft ml_X6_151 (by first | exact gG.at0 | exact gG.at47 | exact gG.now.at | exact gG.ahd.at | exact gG.now.ac (by assumption) | exact gG.ahd.ac (by assumption)) rfl (by decide) rfl rfl rfl (by first | exact Nat.le_of_ble_eq_true rfl | (simp [Value.category, isR_cat kv_isR, isR_cat aref_isR]; done)) (Nat.le_refl _) (Nat.le_refl _) ?_
            refine gx_goto (tgt := 205) hC dX6_tell_197 (by decide) ?_
            exact gx_iret hC hQ dX6_tell_205 ((by unfold hTl; rw [if_neg (fun q => q.elim c_1 (Int32.not_le.mpr c_7))]; unfold hTlT; obtain rfl : x = 14 := x_of (k := 14) (by rw [hj]; rfl) (by decide); first | rfl | (simp; done) | (exfalso; revert c_189; decide))) (rfl) rfl
        | 15, hf =>
          obtain rfl : tg = 186 := by simp at hf; omega
          refine gx_iload_n (i := 1) hC dX6_tell_186 rfl rfl ?_
          refine gx_bipush (v := 7) hC dX6_tell_187 bp_7 ?_
          refine gx_icmp_ge (tgt := 200) hC dX6_tell_189 (by decide) (fun c_189 => ?_) (fun c_189 => ?_)
          · refine gx_aload_n (i := 0) hC dX6_tell_200 rfl rfl (by first | exact Or.inr ⟨_, rfl⟩ | exact Or.inl rfl | exact kv_isR | exact aref_isR) ?_
            refine gx_iload_n (i := 1) hC dX6_tell_201 rfl rfl ?_
            refine gx_callV1 hC dX6_tell_202 (c_X6_tellFuel _ _ gG _) kY_X6_tellFuel kV_X6_tellFuel ml_X6_154 (by first | exact gG.at0 | exact gG.at47 | exact gG.now.at | exact gG.ahd.at | exact gG.now.ac (by assumption) | exact gG.ahd.ac (by assumption)) rfl (by decide) rfl rfl rfl (by first | exact Nat.le_of_ble_eq_true rfl | (simp [Value.category, isR_cat kv_isR, isR_cat aref_isR]; done)) (Nat.le_refl _) (Nat.le_refl _) ?_
            exact gx_iret hC hQ dX6_tell_205 ((by unfold hTl; rw [if_neg (fun q => q.elim c_1 (Int32.not_le.mpr c_7))]; unfold hTlT; obtain rfl : x = 15 := x_of (k := 15) (by rw [hj]; rfl) (by decide); first | rfl | (simp; done) | (exfalso; revert c_189; decide))) (rfl) rfl
          · refine gx_aload_n (i := 0) hC dX6_tell_192 rfl rfl (by first | exact Or.inr ⟨_, rfl⟩ | exact Or.inl rfl | exact kv_isR | exact aref_isR) ?_
            refine gx_iload_n (i := 1) hC dX6_tell_193 rfl rfl ?_
            refine gx_callV1 hC dX6_tell_194 (c_X6_tellNumberOfAircraft _ _ gG hW _) kY_X6_tellNumberOfAircraft kV_X6_tellNumberOfAircraft ml_X6_151 (by first | exact gG.at0 | exact gG.at47 | exact gG.now.at | exact gG.ahd.at | exact gG.now.ac (by assumption) | exact gG.ahd.ac (by assumption)) rfl (by decide) rfl rfl rfl (by first | exact Nat.le_of_ble_eq_true rfl | (simp [Value.category, isR_cat kv_isR, isR_cat aref_isR]; done)) (Nat.le_refl _) (Nat.le_refl _) ?_
            refine gx_goto (tgt := 205) hC dX6_tell_197 (by decide) ?_
            exact gx_iret hC hQ dX6_tell_205 ((by unfold hTl; rw [if_neg (fun q => q.elim c_1 (Int32.not_le.mpr c_7))]; unfold hTlT; obtain rfl : x = 15 := x_of (k := 15) (by rw [hj]; rfl) (by decide); first | rfl | (simp; done) | (exfalso; revert c_189; decide))) (rfl) rfl
        | 16, hf =>
          obtain rfl : tg = 170 := by simp at hf; omega
          refine gx_aload_n (i := 0) hC dX6_tell_170 rfl rfl (by first | exact Or.inr ⟨_, rfl⟩ | exact Or.inl rfl | exact kv_isR | exact aref_isR) ?_
          refine gx_getR hC dX6_tell_171 fl_X6_10 (by first | exact gG.at0 | exact gG.at47 | exact gG.now.at | exact gG.ahd.at | exact gG.now.ac (by assumption) | exact gG.ahd.ac (by assumption)) rfl (gG.r0) (by decide) ?_
          refine gx_getI hC dX6_tell_174 fl_X6_145 (by first | exact gG.at0 | exact gG.at47 | exact gG.now.at | exact gG.ahd.at | exact gG.now.ac (by assumption) | exact gG.ahd.ac (by assumption)) (by decide) (rfl) ?_
          exact gx_iret hC hQ dX6_tell_177 ((by unfold hTl; rw [if_neg (fun q => q.elim c_1 (Int32.not_le.mpr c_7))]; unfold hTlT; obtain rfl : x = 16 := x_of (k := 16) (by rw [hj]; rfl) (by decide); first | rfl | (simp; done) | (exfalso; revert c_189; decide))) (rfl) rfl
        | 17, hf =>
          obtain rfl : tg = 178 := by simp at hf; omega
          refine gx_aload_n (i := 0) hC dX6_tell_178 rfl rfl (by first | exact Or.inr ⟨_, rfl⟩ | exact Or.inl rfl | exact kv_isR | exact aref_isR) ?_
          refine gx_getR hC dX6_tell_179 fl_X6_22 (by first | exact gG.at0 | exact gG.at47 | exact gG.now.at | exact gG.ahd.at | exact gG.now.ac (by assumption) | exact gG.ahd.ac (by assumption)) rfl (gG.r2) (by decide) ?_
          refine gx_getI hC dX6_tell_182 fl_X6_148 (by first | exact gG.at0 | exact gG.at47 | exact gG.now.at | exact gG.ahd.at | exact gG.now.ac (by assumption) | exact gG.ahd.ac (by assumption)) (by decide) (rfl) ?_
          exact gx_iret hC hQ dX6_tell_185 ((by unfold hTl; rw [if_neg (fun q => q.elim c_1 (Int32.not_le.mpr c_7))]; unfold hTlT; obtain rfl : x = 17 := x_of (k := 17) (by rw [hj]; rfl) (by decide); first | rfl | (simp; done) | (exfalso; revert c_189; decide))) (rfl) rfl
        | q + 18, hf => simp at hf
    · refine gx_iconst (v := -1) hC dX6_tell_10 ic_m1 ?_
      exact gx_iret hC hQ dX6_tell_11 ((by unfold hTl; rw [if_pos (Or.inr (Int32.not_lt.mp c_7))])) (rfl) rfl
