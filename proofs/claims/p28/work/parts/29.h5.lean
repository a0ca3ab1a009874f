theorem SWadm {f : hMem} {lv c : Nat} {kd fuel lev : Int32} (h : SW f lv c) (hc : c < 20) (hkd : hk kd) : SW (sAdm f c kd fuel lev) lv (c + 1) := by
  have e : ∀ i k, i ≠ 2 → (i = 0 → k ≠ 11 ∧ k ≠ 15 ∧ k ≠ 2) → (i = 3 + c → k = 0) → sAdm f c kd fuel lev i k = f i k := by
    intro i k h1 h2 h3
    unfold sAdm
    rw [up2_off (by omega), up2_off (by omega), sSetH_off h1, up2_off (by omega), up2_off (by omega), up2_off (by omega), up2_off (by omega), up2_off (by omega), up2_off (by omega), up2_off (by omega)]
  refine ⟨⟨(e 0 3 (by decide) (by decide) (by omega)).trans h.lv, h.l16⟩, ⟨?_, by omega⟩, fun j hj => ⟨(e _ _ (by omega) (by omega) (by omega)).trans (h.nu hj), ?_⟩⟩
  · unfold sAdm
    rw [up2_off (by omega), up2_off (by omega), sSetH_off (by decide), up2_off (by omega), up2_off (by omega), up2_off (by omega), up2_off (by omega), up2_off (by omega), up2_off (by omega), up2_same]
    exact nI_1 c
  · by_cases hjc : j = c
    · subst hjc
      unfold sAdm
      rw [up2_off (by omega), up2_off (by omega), sSetH_off (by omega), up2_off (by omega), up2_off (by omega), up2_off (by omega), up2_off (by omega), up2_off (by omega), up2_same]
      exact hkd
    · have h9 : sAdm f c kd fuel lev (3 + j) 1 = f (3 + j) 1 := by
        unfold sAdm
        rw [up2_off (by omega), up2_off (by omega), sSetH_off (by omega), up2_off (by omega), up2_off (by omega), up2_off (by omega), up2_off (by omega), up2_off (by omega), up2_off (by omega), up2_off (by omega)]
      rw [h9]; exact h.kd hj
theorem sTo_val {lv c : Nat} {num : Int32} : ∀ (m i : Nat) (f : hMem), (sTo lv c num m i f).1 = -6 ∨ ∃ k, i < k ∧ k ≤ i + m ∧ (sTo lv c num m i f).1 = nI k := by
  intro m
  induction m with
  | zero => intro i f; exact Or.inl rfl
  | succ m ih =>
    intro i f
    rw [sTo]
    split
    · split
      · exact Or.inr ⟨i + 1, by omega, by omega, rfl⟩
      · rcases ih (i + 1) (sPass f lv).2 with h | ⟨k, h1, h2, h3⟩
        · exact Or.inl h
        · exact Or.inr ⟨k, by omega, by omega, h3⟩
    · exact Or.inl rfl
theorem SWto {lv c : Nat} {num : Int32} : ∀ (m i : Nat) (f : hMem), SW f lv c → SW (sTo lv c num m i f).2 lv c := by
  intro m
  induction m with
  | zero => intro i f h; exact h
  | succ m ih =>
    intro i f h
    rw [sTo]
    split
    · split
      · exact SWpass h
      · exact ih _ _ (SWpass h)
    · exact h
/-- one level tried: where one lands if it enters there -/
def blR (F A : hMem) (lv c so : Nat) (kd fuel : Int32) (i : Nat) : Int32 × hMem := sTo lv (c + 1) (nI c) (so - 1) 0 (sAdm (sCopy A F c) c kd fuel (nI i))
def blI (F A0 : hMem) (lv c : Nat) (kd fuel : Int32) : Nat → Int32 × Nat × hMem
  | 0 => (-6, 601, A0)
  | i + 1 => if sRef F c kd fuel (nI i) = 0 then
      (if (blR F (blI F A0 lv c kd fuel i).2.2 lv c (blI F A0 lv c kd fuel i).2.1 kd fuel i).1 = -6 then ((blI F A0 lv c kd fuel i).1, (blI F A0 lv c kd fuel i).2.1, (blR F (blI F A0 lv c kd fuel i).2.2 lv c (blI F A0 lv c kd fuel i).2.1 kd fuel i).2)
       else (nI i, (blR F (blI F A0 lv c kd fuel i).2.2 lv c (blI F A0 lv c kd fuel i).2.1 kd fuel i).1.toNatClampNeg, (blR F (blI F A0 lv c kd fuel i).2.2 lv c (blI F A0 lv c kd fuel i).2.1 kd fuel i).2))
    else blI F A0 lv c kd fuel i
section BLI
variable {F A0 : hMem} {lv c i : Nat} {kd fuel : Int32}
theorem bl_x (h : ¬ sRef F c kd fuel (nI i) = 0) : blI F A0 lv c kd fuel (i + 1) = blI F A0 lv c kd fuel i := by rw [blI, if_neg h]
theorem bl_n (h : sRef F c kd fuel (nI i) = 0) (h1 : (blR F (blI F A0 lv c kd fuel i).2.2 lv c (blI F A0 lv c kd fuel i).2.1 kd fuel i).1 = -6) :
    blI F A0 lv c kd fuel (i + 1) = ((blI F A0 lv c kd fuel i).1, (blI F A0 lv c kd fuel i).2.1, (blR F (blI F A0 lv c kd fuel i).2.2 lv c (blI F A0 lv c kd fuel i).2.1 kd fuel i).2) := by rw [blI, if_pos h, if_pos h1]
theorem bl_y (h : sRef F c kd fuel (nI i) = 0) (h1 : ¬ (blR F (blI F A0 lv c kd fuel i).2.2 lv c (blI F A0 lv c kd fuel i).2.1 kd fuel i).1 = -6) :
    blI F A0 lv c kd fuel (i + 1) = (nI i, (blR F (blI F A0 lv c kd fuel i).2.2 lv c (blI F A0 lv c kd fuel i).2.1 kd fuel i).1.toNatClampNeg, (blR F (blI F A0 lv c kd fuel i).2.2 lv c (blI F A0 lv c kd fuel i).2.1 kd fuel i).2) := by rw [blI, if_pos h, if_neg h1]
theorem bl_inv (hF : SW F lv c) (hA : KN A0) (hc : c < 20) (hkd : hk kd) : ∀ i, KN (blI F A0 lv c kd fuel i).2.2 ∧ 1 ≤ (blI F A0 lv c kd fuel i).2.1 ∧ (blI F A0 lv c kd fuel i).2.1 ≤ 601 := by
  intro i
  induction i with
  | zero => exact ⟨hA, (by show 1 ≤ 601; decide), (by show 601 ≤ 601; decide)⟩
  | succ i ih =>
    by_cases h : sRef F c kd fuel (nI i) = 0
    · have hk2 : KN (blR F (blI F A0 lv c kd fuel i).2.2 lv c (blI F A0 lv c kd fuel i).2.1 kd fuel i).2 := (SWto _ _ _ (SWadm (SWcopy ih.1 hF) hc hkd)).kn
      by_cases h1 : (blR F (blI F A0 lv c kd fuel i).2.2 lv c (blI F A0 lv c kd fuel i).2.1 kd fuel i).1 = -6
      · rw [bl_n h h1]; exact ⟨hk2, ih.2⟩
      · rw [bl_y h h1]
        refine ⟨hk2, ?_⟩
        rcases sTo_val (lv := lv) (c := c + 1) (num := nI c) ((blI F A0 lv c kd fuel i).2.1 - 1) 0 (sAdm (sCopy (blI F A0 lv c kd fuel i).2.2 F c) c kd fuel (nI i)) with h2 | ⟨k, k1, k2, k3⟩
        · exact absurd h2 h1
        · show 1 ≤ (blR F (blI F A0 lv c kd fuel i).2.2 lv c (blI F A0 lv c kd fuel i).2.1 kd fuel i).1.toNatClampNeg ∧ (blR F (blI F A0 lv c kd fuel i).2.2 lv c (blI F A0 lv c kd fuel i).2.1 kd fuel i).1.toNatClampNeg ≤ 601
          unfold blR
          rw [k3, nI_clamp (by omega)]
          omega
    · rw [bl_x h]; exact ih
theorem bl_so (h1 : ¬ (blR F (blI F A0 lv c kd fuel i).2.2 lv c (blI F A0 lv c kd fuel i).2.1 kd fuel i).1 = -6) (hs : (blI F A0 lv c kd fuel i).2.1 ≤ 601) : nI (blR F (blI F A0 lv c kd fuel i).2.2 lv c (blI F A0 lv c kd fuel i).2.1 kd fuel i).1.toNatClampNeg = (blR F (blI F A0 lv c kd fuel i).2.2 lv c (blI F A0 lv c kd fuel i).2.1 kd fuel i).1 := by
  rcases sTo_val (lv := lv) (c := c + 1) (num := nI c) ((blI F A0 lv c kd fuel i).2.1 - 1) 0 (sAdm (sCopy (blI F A0 lv c kd fuel i).2.2 F c) c kd fuel (nI i)) with h2 | ⟨k, k1, k2, k3⟩
  · exact absurd h2 h1
  · unfold blR
    rw [k3, nI_clamp (by omega)]
end BLI
theorem q_refusal {l : Launch} {z : hZt} {n : Nat} {M : hMem} {R : hRef} {A : hMem} (gG : GS n R) {lv c : Nat} (hW : SW (getS M 1) lv c) (kd fuel lev : Int32) (hkd : hk kd) : hCt l z m_X4_refusal [.ref (z.1 + 1), kv z.2.1 kd, .int fuel, .int lev] n (putS M 24 A) R n (some (.int (sRef (getS M 1) c kd fuel lev))) (putS M 24 A) R := by
  have e : getS (putS M 24 A) 1 = getS M 1 := getS_put (Or.inl (by decide))
  have h := e_X4_refusal (l := l) (z := z) (M := putS M 24 A) (R := R) gG.now (lv := lv) (c := c) (by rw [e]; exact hW) kd fuel lev hkd
  rw [e] at h
  exact h
set_option maxHeartbeats 4000000 in
set_option maxRecDepth 20000 in
theorem c_X6_bestLevel (l : Launch) (z : hZt) {n : Nat} {M : hMem} {R : hRef} (gG : GS n R) {lv c : Nat} (hW : SW (getS M 1) lv c) (hA24 : KN (getS M 24)) {kd fuel : Int32} (hkd : hk kd) (hfu : bFuel fuel = true) (hc : c < 20) : hCt l z m_X6_bestLevel [.ref (z.1 + 0), .int kd, .int fuel] n M R n (some (.int (blI (getS M 1) (getS M 24) lv c kd fuel lv).1)) (putS M 24 (blI (getS M 1) (getS M 24) lv c kd fuel lv).2.2) R := by
  refine hs_start [some (.ref (z.1 + 0)), some (.int kd), some (.int fuel), none, none, none, none, none, none] (by decide +kernel) rfl (by intro u hu; simp at hu; rcases hu with rfl | rfl | rfl <;> first | rfl | exact isR_cat kv_isR | exact isR_cat aref_isR) (Nat.le_of_ble_eq_true rfl) (Nat.le_refl _) (fun X hlX hN hC hQ => ?_)
  dsimp only at hC hQ
  have hl16 := hW.l16
  refine gx_iload_n (i := 1) hC dX6_bestLevel_0 rfl rfl ?_
  refine gx_callS1 hC dX6_bestLevel_1 (c_X2_of _ _ _) kY_X2_of kS_X2_of ml_X6_72 (by decide) rfl rfl rfl (by first | exact Nat.le_of_ble_eq_true rfl | (simp [Value.category, isR_cat kv_isR, isR_cat aref_isR]; done)) (Nat.le_refl _) (Nat.le_refl _) ?_
  refine gx_astore_n (i := 3) (L' := [_, _, _, _, _, _, _, _, _]) hC dX6_bestLevel_4 rfl (Nat.le_of_ble_eq_true rfl) rfl (fun u h9 => by first | exact Or.inl rfl | (cases h9; done) | (right; cases h9; first | rfl | exact isR_cat aref_isR | exact isR_cat kv_isR)) (by first | exact kv_isR | exact Or.inr ⟨_, rfl⟩) ?_
  refine gx_aload_n (i := 3) hC dX6_bestLevel_5 rfl rfl (by first | exact kv_isR | exact Or.inr ⟨_, rfl⟩) ?_
  refine gx_ifnonnull_kv (tgt := 11) hC dX6_bestLevel_6 (by decide) (fun c_6 => ?_) (fun c_6 => ?_)
  · refine gx_iload_n (i := 2) hC dX6_bestLevel_11 rfl rfl ?_
    refine gx_callS1 hC dX6_bestLevel_12 (c_X6_isFuel _ _ _) kY_X6_isFuel kS_X6_isFuel ml_X6_179 (by decide) rfl rfl rfl (by first | exact Nat.le_of_ble_eq_true rfl | (simp [Value.category, isR_cat kv_isR, isR_cat aref_isR]; done)) (Nat.le_refl _) (Nat.le_refl _) ?_
    refine gx_ifb_ne (tgt := 21) hC dX6_bestLevel_15 (by decide) (fun c_15 => ?_) (fun c_15 => ?_)
    · refine gx_aload_n (i := 0) hC dX6_bestLevel_21 rfl rfl (by first | exact kv_isR | exact Or.inr ⟨_, rfl⟩) ?_
      refine gx_getR hC dX6_bestLevel_22 fl_X6_10 (by first | exact gG.at0 | exact gG.now.at | exact gG.ahd.at | exact gG.now.ac (by assumption) | exact gG.ahd.ac (by assumption)) rfl (gG.r0) (by decide) ?_
      refine gx_callV1 hC dX6_bestLevel_25 (e_X4_isFull gG.now) kY_X4_isFull kV_X4_isFull ml_X6_182 (by first | exact gG.at0 | exact gG.now.at | exact gG.ahd.at | exact gG.now.ac (by assumption) | exact gG.ahd.ac (by assumption)) rfl (by decide) rfl rfl rfl (by first | exact Nat.le_of_ble_eq_true rfl | (simp [Value.category, isR_cat kv_isR, isR_cat aref_isR]; done)) (Nat.le_refl _) (Nat.le_refl _) ?_
      refine gx_ifb_eq (tgt := 34) hC dX6_bestLevel_28 (by decide) (fun c_28 => ?_) (fun c_28 => ?_)
      · refine gx_bipush (v := -6) hC dX6_bestLevel_34 bp_m6 ?_
        refine gx_istore (i := 4) (L' := [_, _, _, _, _, _, _, _, _]) hC dX6_bestLevel_36 (Nat.le_of_ble_eq_true rfl) rfl (fun u h9 => by first | exact Or.inl rfl | (cases h9; done) | (right; cases h9; first | rfl | exact isR_cat aref_isR | exact isR_cat kv_isR)) ?_
        refine gx_sipush (v := nI 601) hC dX6_bestLevel_38 sp_601n ?_
        refine gx_istore (i := 5) (L' := [_, _, _, _, _, _, _, _, _]) hC dX6_bestLevel_41 (Nat.le_of_ble_eq_true rfl) rfl (fun u h9 => by first | exact Or.inl rfl | (cases h9; done) | (right; cases h9; first | rfl | exact isR_cat aref_isR | exact isR_cat kv_isR)) ?_
        refine gx_iconst (v := nI 0) hC dX6_bestLevel_43 ic_0n ?_
        refine gx_istore (i := 6) (L' := [_, _, _, _, _, _, _, _, _]) hC dX6_bestLevel_44 (Nat.le_of_ble_eq_true rfl) rfl (fun u h9 => by first | exact Or.inl rfl | (cases h9; done) | (right; cases h9; first | rfl | exact isR_cat aref_isR | exact isR_cat kv_isR)) ?_
        have loop_46 : ∀ (k : Nat) (i : Nat) (a b : Option Value), lv - i < k → i ≤ lv → hG z n X n (putS M 24 (blI (getS M 1) (getS M 24) lv c kd fuel i).2.2) R 46 [some (.ref (z.1 + 0)), some (.int kd), some (.int fuel), some (kv z.2.1 kd), some (.int (blI (getS M 1) (getS M 24) lv c kd fuel i).1), some (.int (nI (blI (getS M 1) (getS M 24) lv c kd fuel i).2.1)), some (.int (nI i)), a, b] [] := by
          intro k
          induction k with
          | zero => intros; omega
          | succ k ih =>
            intro i a b hk1 hi
            refine gx_iload hC dX6_bestLevel_46 rfl ?_
            refine gx_aload_n (i := 0) hC dX6_bestLevel_48 rfl rfl (by first | exact kv_isR | exact Or.inr ⟨_, rfl⟩) ?_
            refine gx_getR hC dX6_bestLevel_49 fl_X6_10 (by first | exact gG.at0 | exact gG.now.at | exact gG.ahd.at | exact gG.now.ac (by assumption) | exact gG.ahd.ac (by assumption)) rfl (gG.r0) (by decide) ?_
            refine gx_getI hC dX6_bestLevel_52 fl_X6_44 (by first | exact gG.at0 | exact gG.now.at | exact gG.ahd.at | exact gG.now.ac (by assumption) | exact gG.ahd.ac (by assumption)) (by decide) ((pSo (Or.inl (by decide))).trans (getS_0.symm.trans hW.lv)) ?_
            refine gx_icmp_ge (tgt := 132) hC dX6_bestLevel_55 (by decide) (fun c_55 => ?_) (fun c_55 => ?_)
            · have d_55 := cle (by omega) (by omega) c_55
              refine gx_iload hC dX6_bestLevel_132 rfl ?_
              exact gx_iret hC hQ dX6_bestLevel_134 (by rw [show lv = i by omega]) (by rw [show lv = i by omega]) rfl
            · have d_55 := cnle (by omega) (by omega) c_55
              have hb := bl_inv (fuel := fuel) hW hA24 hc hkd i
              refine gx_aload_n (i := 0) hC dX6_bestLevel_58 rfl rfl (by first | exact kv_isR | exact Or.inr ⟨_, rfl⟩) ?_
              refine gx_getR hC dX6_bestLevel_59 fl_X6_10 (by first | exact gG.at0 | exact gG.now.at | exact gG.ahd.at | exact gG.now.ac (by assumption) | exact gG.ahd.ac (by assumption)) rfl (gG.r0) (by decide) ?_
              refine gx_aload_n (i := 3) hC dX6_bestLevel_62 rfl rfl (by first | exact kv_isR | exact Or.inr ⟨_, rfl⟩) ?_
              refine gx_iload_n (i := 2) hC dX6_bestLevel_63 rfl rfl ?_
              refine gx_iload hC dX6_bestLevel_64 rfl ?_
              refine gx_callV1 hC dX6_bestLevel_66 (q_refusal gG hW _ _ _ hkd) kY_X4_refusal kV_X4_refusal ml_X6_185 (by first | exact gG.at0 | exact gG.now.at | exact gG.ahd.at | exact gG.now.ac (by assumption) | exact gG.ahd.ac (by assumption)) rfl (by decide) rfl rfl rfl (by first | exact Nat.le_of_ble_eq_true rfl | (simp [Value.category, isR_cat kv_isR, isR_cat aref_isR]; done)) (Nat.le_refl _) (Nat.le_refl _) ?_
              refine gx_if_ne (tgt := 126) hC dX6_bestLevel_69 (by decide) (fun c_69 => ?_) (fun c_69 => ?_)
              · refine gx_iinc (i := 6) (L' := [_, _, _, _, _, _, _, _, _]) hC dX6_bestLevel_126 rfl (ii_1 _) (Nat.le_of_ble_eq_true rfl) rfl (fun u h9 => by first | exact Or.inl rfl | (cases h9; done) | (right; cases h9; first | rfl | exact isR_cat aref_isR | exact isR_cat kv_isR)) ?_
                refine gx_goto (tgt := 46) hC dX6_bestLevel_129 (by decide) ?_
                have h9 := fun a b => ih (i + 1) a b (by omega) (by omega)
                rw [bl_x c_69] at h9
                exact h9 _ _
              · refine gx_aload_n (i := 0) hC dX6_bestLevel_72 rfl rfl (by first | exact kv_isR | exact Or.inr ⟨_, rfl⟩) ?_
                refine gx_getR hC dX6_bestLevel_73 fl_X6_16 (by first | exact gG.at0 | exact gG.now.at | exact gG.ahd.at | exact gG.now.ac (by assumption) | exact gG.ahd.ac (by assumption)) rfl (gG.r1) (by decide) ?_
                refine gx_aload_n (i := 0) hC dX6_bestLevel_76 rfl rfl (by first | exact kv_isR | exact Or.inr ⟨_, rfl⟩) ?_
                refine gx_getR hC dX6_bestLevel_77 fl_X6_10 (by first | exact gG.at0 | exact gG.now.at | exact gG.ahd.at | exact gG.now.ac (by assumption) | exact gG.ahd.ac (by assumption)) rfl (gG.r0) (by decide) ?_
                refine gx_callV0 hC dX6_bestLevel_80 (c_X4_copyFrom _ _ gG.ahd gG.now (Or.inl (by decide)) (g := getS M 1) (fun i hi k => getS_at hi) hW.ct hW.c20) kY_X4_copyFrom kV_X4_copyFrom ml_X6_188 (by first | exact gG.at0 | exact gG.now.at | exact gG.ahd.at | exact gG.now.ac (by assumption) | exact gG.ahd.ac (by assumption)) rfl (by decide) rfl rfl rfl (by first | exact Nat.le_of_ble_eq_true rfl | (simp [Value.category, isR_cat kv_isR, isR_cat aref_isR]; done)) (Nat.le_refl _) (Nat.le_refl _) ?_
                refine gx_aload_n (i := 0) hC dX6_bestLevel_83 rfl rfl (by first | exact kv_isR | exact Or.inr ⟨_, rfl⟩) ?_
                refine gx_getR hC dX6_bestLevel_84 fl_X6_16 (by first | exact gG.at0 | exact gG.now.at | exact gG.ahd.at | exact gG.now.ac (by assumption) | exact gG.ahd.ac (by assumption)) rfl (gG.r1) (by decide) ?_
                refine gx_aload_n (i := 3) hC dX6_bestLevel_87 rfl rfl (by first | exact kv_isR | exact Or.inr ⟨_, rfl⟩) ?_
                refine gx_iload_n (i := 2) hC dX6_bestLevel_88 rfl rfl ?_
                refine gx_iload hC dX6_bestLevel_89 rfl ?_
                refine gx_callV1 hC dX6_bestLevel_91 (c_X4_admit _ _ gG.ahd (SWcopy hb.1 hW) hc _ _ _) kY_X4_admit kV_X4_admit ml_X6_82 (by first | exact gG.at0 | exact gG.now.at | exact gG.ahd.at | exact gG.now.ac (by assumption) | exact gG.ahd.ac (by assumption)) rfl (by decide) rfl rfl rfl (by first | exact Nat.le_of_ble_eq_true rfl | (simp [Value.category, isR_cat kv_isR, isR_cat aref_isR]; done)) (Nat.le_refl _) (Nat.le_refl _) ?_
                refine gx_istore (i := 7) (L' := [_, _, _, _, _, _, _, _, _]) hC dX6_bestLevel_94 (Nat.le_of_ble_eq_true rfl) rfl (fun u h9 => by first | exact Or.inl rfl | (cases h9; done) | (right; cases h9; first | rfl | exact isR_cat aref_isR | exact isR_cat kv_isR)) ?_
                refine gx_aload_n (i := 0) hC dX6_bestLevel_96 rfl rfl (by first | exact kv_isR | exact Or.inr ⟨_, rfl⟩) ?_
                refine gx_getR hC dX6_bestLevel_97 fl_X6_16 (by first | exact gG.at0 | exact gG.now.at | exact gG.ahd.at | exact gG.now.ac (by assumption) | exact gG.ahd.ac (by assumption)) rfl (gG.r1) (by decide) ?_
                refine gx_iload hC dX6_bestLevel_100 rfl ?_
                refine gx_iload hC dX6_bestLevel_102 rfl ?_
                refine gx_iconst (v := 1) hC dX6_bestLevel_104 ic_1 ?_
                refine gx_isub hC dX6_bestLevel_105 ?_
                rw [show nI (blI (getS M 1) (getS M 24) lv c kd fuel i).2.1 - 1 = nI ((blI (getS M 1) (getS M 24) lv c kd fuel i).2.1 - 1) from by have h9 := hb.2.1; obtain ⟨q, hq⟩ := Nat.exists_eq_add_of_le h9; rw [hq, Nat.add_comm, nI_p1]; rfl]
                refine gx_callV1 hC dX6_bestLevel_106 (c_X4_minutesToLanding _ _ gG.ahd (SWadm (SWcopy hb.1 hW) hc hkd) _ (by have := hb.2; omega)) kY_X4_minutesToLanding kV_X4_minutesToLanding ml_X6_191 (by first | exact gG.at0 | exact gG.now.at | exact gG.ahd.at | exact gG.now.ac (by assumption) | exact gG.ahd.ac (by assumption)) rfl (by decide) rfl rfl rfl (by first | exact Nat.le_of_ble_eq_true rfl | (simp [Value.category, isR_cat kv_isR, isR_cat aref_isR]; done)) (Nat.le_refl _) (Nat.le_refl _) ?_
                refine gx_istore (i := 8) (L' := [_, _, _, _, _, _, _, _, _]) hC dX6_bestLevel_109 (Nat.le_of_ble_eq_true rfl) rfl (fun u h9 => by first | exact Or.inl rfl | (cases h9; done) | (right; cases h9; first | rfl | exact isR_cat aref_isR | exact isR_cat kv_isR)) ?_
                refine gx_iload hC dX6_bestLevel_111 rfl ?_
                refine gx_bipush (v := -6) hC dX6_bestLevel_113 bp_m6 ?_
                refine gx_icmp_eq (tgt := 126) hC dX6_bestLevel_115 (by decide) (fun c_115 => ?_) (fun c_115 => ?_)
                · refine gx_iinc (i := 6) (L' := [_, _, _, _, _, _, _, _, _]) hC dX6_bestLevel_126 rfl (ii_1 _) (Nat.le_of_ble_eq_true rfl) rfl (fun u h9 => by first | exact Or.inl rfl | (cases h9; done) | (right; cases h9; first | rfl | exact isR_cat aref_isR | exact isR_cat kv_isR)) ?_
                  refine gx_goto (tgt := 46) hC dX6_bestLevel_129 (by decide) ?_
                  have h9 := fun a b => ih (i + 1) a b (by omega) (by omega)
                  rw [bl_n c_69 c_115] at h9
                  exact h9 _ _
                · refine gx_iload hC dX6_bestLevel_118 rfl ?_
                  refine gx_istore (i := 4) (L' := [_, _, _, _, _, _, _, _, _]) hC dX6_bestLevel_120 (Nat.le_of_ble_eq_true rfl) rfl (fun u h9 => by first | exact Or.inl rfl | (cases h9; done) | (right; cases h9; first | rfl | exact isR_cat aref_isR | exact isR_cat kv_isR)) ?_
                  refine gx_iload hC dX6_bestLevel_122 rfl ?_
                  refine gx_istore (i := 5) (L' := [_, _, _, _, _, _, _, _, _]) hC dX6_bestLevel_124 (Nat.le_of_ble_eq_true rfl) rfl (fun u h9 => by first | exact Or.inl rfl | (cases h9; done) | (right; cases h9; first | rfl | exact isR_cat aref_isR | exact isR_cat kv_isR)) ?_
                  refine gx_iinc (i := 6) (L' := [_, _, _, _, _, _, _, _, _]) hC dX6_bestLevel_126 rfl (ii_1 _) (Nat.le_of_ble_eq_true rfl) rfl (fun u h9 => by first | exact Or.inl rfl | (cases h9; done) | (right; cases h9; first | rfl | exact isR_cat aref_isR | exact isR_cat kv_isR)) ?_
                  refine gx_goto (tgt := 46) hC dX6_bestLevel_129 (by decide) ?_
                  have h9 := fun a b => ih (i + 1) a b (by omega) (by omega)
                  rw [bl_y c_69 c_115] at h9
                  simp only [bl_so c_115 hb.2.2] at h9
                  exact h9 _ _
        have h9 := fun a b => loop_46 (lv + 1) 0 a b (by omega) (by omega)
        simp only [blI, putS_get] at h9
        exact h9 _ _
      · rw [bFull_f hW hc] at c_28; cases c_28
    · rw [hfu] at c_15; cases c_15
  · exact absurd hkd c_6
def blE (f : hMem) (kd fuel : Int32) : Int32 := if bK kd = false then -1 else if bFuel fuel = false then -2 else -4
set_option maxHeartbeats 4000000 in
set_option maxRecDepth 20000 in
theorem c0_X6_bestLevel (l : Launch) (z : hZt) {n : Nat} {M : hMem} {R : hRef} (gG : GS n R) {kd fuel : Int32} (h : bK kd = false ∨ bFuel fuel = false ∨ bFull (getS M 1) = true) : hCt l z m_X6_bestLevel [.ref (z.1 + 0), .int kd, .int fuel] n M R n (some (.int (blE (getS M 1) kd fuel))) M R := by
  refine hs_start [some (.ref (z.1 + 0)), some (.int kd), some (.int fuel), none, none, none, none, none, none] (by decide +kernel) rfl (by intro u hu; simp at hu; rcases hu with rfl | rfl | rfl <;> first | rfl | exact isR_cat kv_isR | exact isR_cat aref_isR) (Nat.le_of_ble_eq_true rfl) (Nat.le_refl _) (fun X hlX hN hC hQ => ?_)
  dsimp only at hC hQ
  refine gx_iload_n (i := 1) hC dX6_bestLevel_0 rfl rfl ?_
  refine gx_callS1 hC dX6_bestLevel_1 (c_X2_of _ _ _) kY_X2_of kS_X2_of ml_X6_72 (by decide) rfl rfl rfl (by first | exact Nat.le_of_ble_eq_true rfl | (simp [Value.category, isR_cat kv_isR, isR_cat aref_isR]; done)) (Nat.le_refl _) (Nat.le_refl _) ?_
  refine gx_astore_n (i := 3) (L' := [_, _, _, _, _, _, _, _, _]) hC dX6_bestLevel_4 rfl (Nat.le_of_ble_eq_true rfl) rfl (fun u h9 => by first | exact Or.inl rfl | (cases h9; done) | (right; cases h9; first | rfl | exact isR_cat aref_isR | exact isR_cat kv_isR)) (by first | exact kv_isR | exact Or.inr ⟨_, rfl⟩) ?_
  refine gx_aload_n (i := 3) hC dX6_bestLevel_5 rfl rfl (by first | exact kv_isR | exact Or.inr ⟨_, rfl⟩) ?_
  refine gx_ifnonnull_kv (tgt := 11) hC dX6_bestLevel_6 (by decide) (fun c_6 => ?_) (fun c_6 => ?_)
  · refine gx_iload_n (i := 2) hC dX6_bestLevel_11 rfl rfl ?_
    refine gx_callS1 hC dX6_bestLevel_12 (c_X6_isFuel _ _ _) kY_X6_isFuel kS_X6_isFuel ml_X6_179 (by decide) rfl rfl rfl (by first | exact Nat.le_of_ble_eq_true rfl | (simp [Value.category, isR_cat kv_isR, isR_cat aref_isR]; done)) (Nat.le_refl _) (Nat.le_refl _) ?_
    refine gx_ifb_ne (tgt := 21) hC dX6_bestLevel_15 (by decide) (fun c_15 => ?_) (fun c_15 => ?_)
    · refine gx_aload_n (i := 0) hC dX6_bestLevel_21 rfl rfl (by first | exact kv_isR | exact Or.inr ⟨_, rfl⟩) ?_
      refine gx_getR hC dX6_bestLevel_22 fl_X6_10 (by first | exact gG.at0 | exact gG.now.at | exact gG.ahd.at | exact gG.now.ac (by assumption) | exact gG.ahd.ac (by assumption)) rfl (gG.r0) (by decide) ?_
      refine gx_callV1 hC dX6_bestLevel_25 (e_X4_isFull gG.now) kY_X4_isFull kV_X4_isFull ml_X6_182 (by first | exact gG.at0 | exact gG.now.at | exact gG.ahd.at | exact gG.now.ac (by assumption) | exact gG.ahd.ac (by assumption)) rfl (by decide) rfl rfl rfl (by first | exact Nat.le_of_ble_eq_true rfl | (simp [Value.category, isR_cat kv_isR, isR_cat aref_isR]; done)) (Nat.le_refl _) (Nat.le_refl _) ?_
      refine gx_ifb_eq (tgt := 34) hC dX6_bestLevel_28 (by decide) (fun c_28 => ?_) (fun c_28 => ?_)
      · exact absurd h (fun q => q.elim (fun r => absurd ((bK_t c_6).symm.trans r) (by decide)) (fun q => q.elim (fun r => absurd (c_15.symm.trans r) (by decide)) (fun r => absurd (c_28.symm.trans r) (by decide))))
      · refine gx_bipush (v := -4) hC dX6_bestLevel_31 bp_m4 ?_
        exact gx_iret hC hQ dX6_bestLevel_33 ((by unfold blE; rw [if_neg (by rw [bK_t c_6]; decide), if_neg (by rw [c_15]; decide)])) (rfl) rfl
    · refine gx_bipush (v := -2) hC dX6_bestLevel_18 bp_m2 ?_
      exact gx_iret hC hQ dX6_bestLevel_20 ((by unfold blE; rw [if_neg (by rw [bK_t c_6]; decide), if_pos c_15])) (rfl) rfl
  · refine gx_iconst (v := -1) hC dX6_bestLevel_9 ic_m1 ?_
    exact gx_iret hC hQ dX6_bestLevel_10 ((by unfold blE; rw [if_pos (bK_f c_6)])) (rfl) rfl
