def ck1 (M : hMem) (c : Nat) : Nat → Int64
  | 0 => 157
  | k + 1 => 31 * ck1 M c k + (hTl M c (nI k)).toInt64
def ckA (M : hMem) (i : Nat) (h : Int64) : Nat → Int64
  | 0 => h
  | w + 1 => 31 * ckA M i h w + (hAc M (nI i) (nI w)).toInt64
def ck2 (M : hMem) (h : Int64) : Nat → Int64
  | 0 => h
  | i + 1 => 31 * (31 * ckA M i (ck2 M h i) 8 + (hWhy M (nI i)).toInt64) + (hFm M (nI i)).toInt64
def ck3 (M : hMem) (h : Int64) : Nat → Int64
  | 0 => h
  | k + 1 => 31 * ck3 M h k + (hLev (getS M 1) (nI k)).toInt64
def hCk (M N : hMem) (lv c : Nat) : Int64 := ck3 N (ck2 N (ck1 M c 18) c) lv
set_option maxHeartbeats 4000000 in
set_option maxRecDepth 20000 in
theorem c_X6_checksum (l : Launch) (z : hZt) {n : Nat} {M : hMem} {R : hRef} (gG : GS n R) {lv c : Nat} (hW : SW (getS M 1) lv c) (hA24 : KN (getS M 24)) : hCt l z m_X6_checksum [.ref (z.1 + 0)] n M R n (some (.long (hCk M (putS M 24 (fcS lv c 600 (aC M c))) lv c))) (putS M 24 (fcS lv c 600 (aC M c))) R := by
  refine hs_start [some (.ref (z.1 + 0)), none, none, none, none] (by decide +kernel) rfl (by intro u hu; simp at hu; subst hu <;> first | rfl | exact isR_cat kv_isR | exact isR_cat aref_isR) (Nat.le_of_ble_eq_true rfl) (Nat.le_refl _) (fun X hlX hN hC hQ => ?_)
  dsimp only at hC hQ
  have hl16 := hW.l16
  have hc20 := hW.c20
  have hW2 : SW (getS (putS M 24 (fcS lv c 600 (aC M c))) 1) lv c := by rw [getS_put (Or.inl (by decide))]; exact hW
  unfold hCk at hQ
  generalize hN0 : (putS M 24 (fcS lv c 600 (aC M c))) = N at hQ hW2
  have loop_113 : ∀ (k : Nat) (i : Nat) (w : Option Value), lv - i < k → i ≤ lv → hG z n X n N R 113 [some (.ref (z.1 + 0)), some (.long (ck3 N (ck2 N (ck1 M c 18) c) i)), none, some (.int (nI i)), w] [] := by
    intro k
    induction k with
    | zero => intros; omega
    | succ k ih =>
      intro i w hk1 hi
      refine gx_iload_n (i := 3) hC dX6_checksum_113 rfl rfl ?_
      refine gx_aload_n (i := 0) hC dX6_checksum_114 rfl rfl (by first | exact Or.inr ⟨_, rfl⟩ | exact Or.inl rfl | exact kv_isR | exact aref_isR) ?_
      refine gx_getR hC dX6_checksum_115 fl_X6_10 (by first | exact gG.at0 | exact gG.now.at | exact gG.ahd.at | exact gG.now.ac (by assumption) | exact gG.ahd.ac (by assumption)) rfl (gG.r0) (by decide) ?_
      refine gx_getI hC dX6_checksum_118 fl_X6_44 (by first | exact gG.at0 | exact gG.now.at | exact gG.ahd.at | exact gG.now.ac (by assumption) | exact gG.ahd.ac (by assumption)) (by decide) (getS_0.symm.trans hW2.lv) ?_
      refine gx_icmp_ge (tgt := 143) hC dX6_checksum_121 (by decide) (fun c_121 => ?_) (fun c_121 => ?_)
      · have d_121 := cle (by omega) (by omega) c_121
        refine gx_lload_n (i := 1) hC dX6_checksum_143 rfl rfl ?_
        exact gx_lret hC hQ dX6_checksum_144 (by rw [show lv = i by omega]) (rfl) rfl
      · have d_121 := cnle (by omega) (by omega) c_121
        refine gx_ldc2_w hC dX6_checksum_124 kl_X6_234 ?_
        refine gx_lload_n (i := 1) hC dX6_checksum_127 rfl rfl ?_
        refine gx_lmul hC dX6_checksum_128 ?_
        refine gx_aload_n (i := 0) hC dX6_checksum_129 rfl rfl (by first | exact Or.inr ⟨_, rfl⟩ | exact Or.inl rfl | exact kv_isR | exact aref_isR) ?_
        refine gx_iload_n (i := 3) hC dX6_checksum_130 rfl rfl ?_
        refine gx_callV1 hC dX6_checksum_131 (c_X6_level _ _ gG hW2 _) kY_X6_level kV_X6_level ml_X6_248 (by first | exact gG.at0 | exact gG.now.at | exact gG.ahd.at | exact gG.now.ac (by assumption) | exact gG.ahd.ac (by assumption)) rfl (by decide) rfl rfl rfl (by first | exact Nat.le_of_ble_eq_true rfl | (simp [Value.category, isR_cat kv_isR, isR_cat aref_isR]; done)) (Nat.le_refl _) (Nat.le_refl _) ?_
        refine gx_i2l hC dX6_checksum_134 ?_
        refine gx_ladd hC dX6_checksum_135 ?_
        refine gx_lstore_n (i := 1) (L' := [_, _, _, _, _]) hC dX6_checksum_136 rfl (Nat.le_of_ble_eq_true rfl) rfl (fun u h9 => by first | exact Or.inl rfl | (cases h9; done) | (right; cases h9; first | rfl | exact isR_cat aref_isR | exact isR_cat kv_isR)) ?_
        refine gx_iinc (i := 3) (L' := [_, _, _, _, _]) hC dX6_checksum_137 rfl (ii_1 _) (Nat.le_of_ble_eq_true rfl) rfl (fun u h9 => by first | exact Or.inl rfl | (cases h9; done) | (right; cases h9; first | rfl | exact isR_cat aref_isR | exact isR_cat kv_isR)) ?_
        refine gx_goto (tgt := 113) hC dX6_checksum_140 (by decide) ?_
        exact ih (i + 1) _ (by omega) (by omega)
  have loop_37 : ∀ (k : Nat) (i : Nat) (w : Option Value), c - i < k → i ≤ c → hG z n X n N R 37 [some (.ref (z.1 + 0)), some (.long (ck2 N (ck1 M c 18) i)), none, some (.int (nI i)), w] [] := by
    intro k
    induction k with
    | zero => intros; omega
    | succ k ih37 =>
      intro i w hk1 hi
      refine gx_iload_n (i := 3) hC dX6_checksum_37 rfl rfl ?_
      refine gx_aload_n (i := 0) hC dX6_checksum_38 rfl rfl (by first | exact Or.inr ⟨_, rfl⟩ | exact Or.inl rfl | exact kv_isR | exact aref_isR) ?_
      refine gx_getR hC dX6_checksum_39 fl_X6_10 (by first | exact gG.at0 | exact gG.now.at | exact gG.ahd.at | exact gG.now.ac (by assumption) | exact gG.ahd.ac (by assumption)) rfl (gG.r0) (by decide) ?_
      refine gx_getI hC dX6_checksum_42 fl_X6_239 (by first | exact gG.at0 | exact gG.now.at | exact gG.ahd.at | exact gG.now.ac (by assumption) | exact gG.ahd.ac (by assumption)) (by decide) (getS_0.symm.trans hW2.ct) ?_
      refine gx_icmp_ge (tgt := 111) hC dX6_checksum_45 (by decide) (fun c_45 => ?_) (fun c_45 => ?_)
      · obtain rfl : i = c := by have := cle (by omega) (by omega) c_45; omega
        refine gx_iconst (v := nI 0) hC dX6_checksum_111 ic_0n ?_
        refine gx_istore_n (i := 3) (L' := [_, _, _, _, _]) hC dX6_checksum_112 rfl (Nat.le_of_ble_eq_true rfl) rfl (fun u h9 => by first | exact Or.inl rfl | (cases h9; done) | (right; cases h9; first | rfl | exact isR_cat aref_isR | exact isR_cat kv_isR)) ?_
        exact loop_113 (lv + 1) 0 _ (by omega) (by omega)
      · have d_45 := cnle (by omega) (by omega) c_45
        refine gx_iconst (v := nI 0) hC dX6_checksum_48 ic_0n ?_
        refine gx_istore (i := 4) (L' := [_, _, _, _, _]) hC dX6_checksum_49 (Nat.le_of_ble_eq_true rfl) rfl (fun u h9 => by first | exact Or.inl rfl | (cases h9; done) | (right; cases h9; first | rfl | exact isR_cat aref_isR | exact isR_cat kv_isR)) ?_
        have loop_51 : ∀ (k : Nat) (j : Nat), 8 - j < k → j ≤ 8 → hG z n X n N R 51 [some (.ref (z.1 + 0)), some (.long (ckA N i (ck2 N (ck1 M c 18) i) j)), none, some (.int (nI i)), some (.int (nI j))] [] := by
          intro k
          induction k with
          | zero => intros; omega
          | succ k ih =>
            intro j hk1 hj
            refine gx_iload hC dX6_checksum_51 rfl ?_
            refine gx_bipush (v := nI 8) hC dX6_checksum_53 bp_8n ?_
            refine gx_icmp_ge (tgt := 79) hC dX6_checksum_55 (by decide) (fun c_55 => ?_) (fun c_55 => ?_)
            · obtain rfl : j = 8 := by have := cle (by omega) (by omega) c_55; omega
              refine gx_ldc2_w hC dX6_checksum_79 kl_X6_234 ?_
              refine gx_lload_n (i := 1) hC dX6_checksum_82 rfl rfl ?_
              refine gx_lmul hC dX6_checksum_83 ?_
              refine gx_aload_n (i := 0) hC dX6_checksum_84 rfl rfl (by first | exact Or.inr ⟨_, rfl⟩ | exact Or.inl rfl | exact kv_isR | exact aref_isR) ?_
              refine gx_iload_n (i := 3) hC dX6_checksum_85 rfl rfl ?_
              refine gx_callV1 hC dX6_checksum_86 (c_X6_why _ _ gG hW2 _) kY_X6_why kV_X6_why ml_X6_245 (by first | exact gG.at0 | exact gG.now.at | exact gG.ahd.at | exact gG.now.ac (by assumption) | exact gG.ahd.ac (by assumption)) rfl (by decide) rfl rfl rfl (by first | exact Nat.le_of_ble_eq_true rfl | (simp [Value.category, isR_cat kv_isR, isR_cat aref_isR]; done)) (Nat.le_refl _) (Nat.le_refl _) ?_
              refine gx_i2l hC dX6_checksum_89 ?_
              refine gx_ladd hC dX6_checksum_90 ?_
              refine gx_lstore_n (i := 1) (L' := [_, _, _, _, _]) hC dX6_checksum_91 rfl (Nat.le_of_ble_eq_true rfl) rfl (fun u h9 => by first | exact Or.inl rfl | (cases h9; done) | (right; cases h9; first | rfl | exact isR_cat aref_isR | exact isR_cat kv_isR)) ?_
              refine gx_ldc2_w hC dX6_checksum_92 kl_X6_234 ?_
              refine gx_lload_n (i := 1) hC dX6_checksum_95 rfl rfl ?_
              refine gx_lmul hC dX6_checksum_96 ?_
              refine gx_aload_n (i := 0) hC dX6_checksum_97 rfl rfl (by first | exact Or.inr ⟨_, rfl⟩ | exact Or.inl rfl | exact kv_isR | exact aref_isR) ?_
              refine gx_iload_n (i := 3) hC dX6_checksum_98 rfl rfl ?_
              refine gx_callV1 hC dX6_checksum_99 (c_X6_forecastMinutes _ _ gG _) kY_X6_forecastMinutes kV_X6_forecastMinutes ml_X6_172 (by first | exact gG.at0 | exact gG.now.at | exact gG.ahd.at | exact gG.now.ac (by assumption) | exact gG.ahd.ac (by assumption)) rfl (by decide) rfl rfl rfl (by first | exact Nat.le_of_ble_eq_true rfl | (simp [Value.category, isR_cat kv_isR, isR_cat aref_isR]; done)) (Nat.le_refl _) (Nat.le_refl _) ?_
              refine gx_i2l hC dX6_checksum_102 ?_
              refine gx_ladd hC dX6_checksum_103 ?_
              refine gx_lstore_n (i := 1) (L' := [_, _, _, _, _]) hC dX6_checksum_104 rfl (Nat.le_of_ble_eq_true rfl) rfl (fun u h9 => by first | exact Or.inl rfl | (cases h9; done) | (right; cases h9; first | rfl | exact isR_cat aref_isR | exact isR_cat kv_isR)) ?_
              refine gx_iinc (i := 3) (L' := [_, _, _, _, _]) hC dX6_checksum_105 rfl (ii_1 _) (Nat.le_of_ble_eq_true rfl) rfl (fun u h9 => by first | exact Or.inl rfl | (cases h9; done) | (right; cases h9; first | rfl | exact isR_cat aref_isR | exact isR_cat kv_isR)) ?_
              refine gx_goto (tgt := 37) hC dX6_checksum_108 (by decide) ?_
              exact ih37 (i + 1) _ (by omega) (by omega)
            · have d_55 := cnle (by omega) (by omega) c_55
              refine gx_ldc2_w hC dX6_checksum_58 kl_X6_234 ?_
              refine gx_lload_n (i := 1) hC dX6_checksum_61 rfl rfl ?_
              refine gx_lmul hC dX6_checksum_62 ?_
              refine gx_aload_n (i := 0) hC dX6_checksum_63 rfl rfl (by first | exact Or.inr ⟨_, rfl⟩ | exact Or.inl rfl | exact kv_isR | exact aref_isR) ?_
              refine gx_iload_n (i := 3) hC dX6_checksum_64 rfl rfl ?_
              refine gx_iload hC dX6_checksum_65 rfl ?_
              refine gx_callV1 hC dX6_checksum_67 (c_X6_aircraft _ _ gG hW2 _ _) kY_X6_aircraft kV_X6_aircraft ml_X6_242 (by first | exact gG.at0 | exact gG.now.at | exact gG.ahd.at | exact gG.now.ac (by assumption) | exact gG.ahd.ac (by assumption)) rfl (by decide) rfl rfl rfl (by first | exact Nat.le_of_ble_eq_true rfl | (simp [Value.category, isR_cat kv_isR, isR_cat aref_isR]; done)) (Nat.le_refl _) (Nat.le_refl _) ?_
              refine gx_i2l hC dX6_checksum_70 ?_
              refine gx_ladd hC dX6_checksum_71 ?_
              refine gx_lstore_n (i := 1) (L' := [_, _, _, _, _]) hC dX6_checksum_72 rfl (Nat.le_of_ble_eq_true rfl) rfl (fun u h9 => by first | exact Or.inl rfl | (cases h9; done) | (right; cases h9; first | rfl | exact isR_cat aref_isR | exact isR_cat kv_isR)) ?_
              refine gx_iinc (i := 4) (L' := [_, _, _, _, _]) hC dX6_checksum_73 rfl (ii_1 _) (Nat.le_of_ble_eq_true rfl) rfl (fun u h9 => by first | exact Or.inl rfl | (cases h9; done) | (right; cases h9; first | rfl | exact isR_cat aref_isR | exact isR_cat kv_isR)) ?_
              refine gx_goto (tgt := 51) hC dX6_checksum_76 (by decide) ?_
              exact ih (j + 1) (by omega) (by omega)
        exact loop_51 9 0 (by omega) (by omega)
  refine gx_ldc2_w hC dX6_checksum_0 kl_X6_232 ?_
  refine gx_lstore_n (i := 1) (L' := [_, _, _, _, _]) hC dX6_checksum_3 rfl (Nat.le_of_ble_eq_true rfl) rfl (fun u h9 => by first | exact Or.inl rfl | (cases h9; done) | (right; cases h9; first | rfl | exact isR_cat aref_isR | exact isR_cat kv_isR)) ?_
  refine gx_iconst (v := nI 0) hC dX6_checksum_4 ic_0n ?_
  refine gx_istore_n (i := 3) (L' := [_, _, _, _, _]) hC dX6_checksum_5 rfl (Nat.le_of_ble_eq_true rfl) rfl (fun u h9 => by first | exact Or.inl rfl | (cases h9; done) | (right; cases h9; first | rfl | exact isR_cat aref_isR | exact isR_cat kv_isR)) ?_
  have loop_6 : ∀ (k : Nat) (i : Nat) (w : Option Value), 18 - i < k → i ≤ 18 → hG z n X n M R 6 [some (.ref (z.1 + 0)), some (.long (ck1 M c i)), none, some (.int (nI i)), w] [] := by
    intro k
    induction k with
    | zero => intros; omega
    | succ k ih =>
      intro i w hk1 hi
      refine gx_iload_n (i := 3) hC dX6_checksum_6 rfl rfl ?_
      refine gx_bipush (v := nI 18) hC dX6_checksum_7 bp_18n ?_
      refine gx_icmp_ge (tgt := 31) hC dX6_checksum_9 (by decide) (fun c_9 => ?_) (fun c_9 => ?_)
      · obtain rfl : i = 18 := by have := cle (by omega) (by omega) c_9; omega
        refine gx_aload_n (i := 0) hC dX6_checksum_31 rfl rfl (by first | exact Or.inr ⟨_, rfl⟩ | exact Or.inl rfl | exact kv_isR | exact aref_isR) ?_
        refine gx_callV0 hC dX6_checksum_32 (c_X6_forecast _ _ gG hW hA24) kY_X6_forecast kV_X6_forecast ml_X6_169 (by first | exact gG.at0 | exact gG.now.at | exact gG.ahd.at | exact gG.now.ac (by assumption) | exact gG.ahd.ac (by assumption)) rfl (by decide) rfl rfl rfl (by first | exact Nat.le_of_ble_eq_true rfl | (simp [Value.category, isR_cat kv_isR, isR_cat aref_isR]; done)) (Nat.le_refl _) (Nat.le_refl _) ?_
        rw [hN0]
        refine gx_iconst (v := nI 0) hC dX6_checksum_35 ic_0n ?_
        refine gx_istore_n (i := 3) (L' := [_, _, _, _, _]) hC dX6_checksum_36 rfl (Nat.le_of_ble_eq_true rfl) rfl (fun u h9 => by first | exact Or.inl rfl | (cases h9; done) | (right; cases h9; first | rfl | exact isR_cat aref_isR | exact isR_cat kv_isR)) ?_
        exact loop_37 (c + 1) 0 _ (by omega) (by omega)
      · have d_9 := cnle (by omega) (by omega) c_9
        refine gx_ldc2_w hC dX6_checksum_12 kl_X6_234 ?_
        refine gx_lload_n (i := 1) hC dX6_checksum_15 rfl rfl ?_
        refine gx_lmul hC dX6_checksum_16 ?_
        refine gx_aload_n (i := 0) hC dX6_checksum_17 rfl rfl (by first | exact Or.inr ⟨_, rfl⟩ | exact Or.inl rfl | exact kv_isR | exact aref_isR) ?_
        refine gx_iload_n (i := 3) hC dX6_checksum_18 rfl rfl ?_
        refine gx_callV1 hC dX6_checksum_19 (c_X6_tell _ _ gG hW _) kY_X6_tell kV_X6_tell ml_X6_236 (by first | exact gG.at0 | exact gG.now.at | exact gG.ahd.at | exact gG.now.ac (by assumption) | exact gG.ahd.ac (by assumption)) rfl (by decide) rfl rfl rfl (by first | exact Nat.le_of_ble_eq_true rfl | (simp [Value.category, isR_cat kv_isR, isR_cat aref_isR]; done)) (Nat.le_refl _) (Nat.le_refl _) ?_
        refine gx_i2l hC dX6_checksum_22 ?_
        refine gx_ladd hC dX6_checksum_23 ?_
        refine gx_lstore_n (i := 1) (L' := [_, _, _, _, _]) hC dX6_checksum_24 rfl (Nat.le_of_ble_eq_true rfl) rfl (fun u h9 => by first | exact Or.inl rfl | (cases h9; done) | (right; cases h9; first | rfl | exact isR_cat aref_isR | exact isR_cat kv_isR)) ?_
        refine gx_iinc (i := 3) (L' := [_, _, _, _, _]) hC dX6_checksum_25 rfl (ii_1 _) (Nat.le_of_ble_eq_true rfl) rfl (fun u h9 => by first | exact Or.inl rfl | (cases h9; done) | (right; cases h9; first | rfl | exact isR_cat aref_isR | exact isR_cat kv_isR)) ?_
        refine gx_goto (tgt := 6) hC dX6_checksum_28 (by decide) ?_
        exact ih (i + 1) _ (by omega) (by omega)
  exact loop_6 19 0 _ (by omega) (by omega)
theorem Frs_S {n m : Nat} {M f : hMem} {R : hRef} {o : Nat} (h : Frs n M R) (hm : o + 23 ≤ m) (hn : n ≤ m) : Frs m (putS M o f) (rS R o) := fun i hi k =>
  ⟨(pSo (Or.inr (by omega))).trans (h i (by omega) k).1, by unfold rS; rw [if_neg (by omega), if_neg (by omega), if_neg (by omega)]; exact (h i (by omega) k).2⟩
theorem Frs_R {n m : Nat} {M : hMem} {R : hRef} {a b x : Nat} (h : Frs n M R) (hm : n ≤ m) (ha : a < m) : Frs m M (up2 R a b x) := fun i hi k => ⟨(h i (by omega) k).1, (up2_off (by omega)).trans (h i (by omega) k).2⟩
theorem Frs_H {n m b a k : Nat} {M : hMem} {R : hRef} (h : Frs n M R) (hn : n ≤ m) (hm : b + 23 * k ≤ m) (ha : a < b) : Frs m (iH b M k) (rH b a R k) := fun i hi q =>
  ⟨(iH_hi (by omega)).trans (h i (by omega) q).1, (rH_hi (by omega) ha).trans (h i (by omega) q).2⟩
theorem Frs_M {n m : Nat} {M : hMem} {R : hRef} {a b : Nat} {x : Int32} (h : Frs n M R) (hm : n ≤ m) (ha : a < m) : Frs m (up2 M a b x) R := fun i hi k => ⟨(up2_off (by omega)).trans (h i (by omega) k).1, (h i (by omega) k).2⟩
theorem Frs_le {n m : Nat} {M : hMem} {R : hRef} (h : Frs n M R) (hm : n ≤ m) : Frs m M R := fun i hi k => h i (by omega) k
def hM1 (M : hMem) : hMem := putS (putS M 1 iS) 24 iS
def hR1 (R : hRef) : hRef := up2 (rS (up2 (rS R 1) 0 0 1) 24) 0 1 24
def hM2 (M : hMem) : hMem := iH 49 (hM1 M) 5
def hR2 (R : hRef) : hRef := up2 (rH 49 48 (up2 (hR1 R) 47 0 48) 5) 0 2 47
def hM3 (M : hMem) : hMem := iH 167 (hM2 M) 2
def hR3 (R : hRef) : hRef := up2 (rH 167 165 (up2 (up2 (hR2 R) 164 0 165) 164 1 166) 2) 0 3 164
def hM4 (M : hMem) : hMem := up2 (hM3 M) 213 3 (-6)
def hR4 (R : hRef) : hRef := up2 (up2 (hR3 R) 213 0 214) 0 4 213
theorem Frs_1 {M : hMem} {R : hRef} (h : Frs 1 M R) : Frs 24 (putS M 1 iS) (up2 (rS R 1) 0 0 1) := Frs_R (Frs_S (m := 24) h (by decide) (by decide)) (by decide) (by decide)
theorem Frs_2 {M : hMem} {R : hRef} (h : Frs 1 M R) : Frs 47 (hM1 M) (hR1 R) := Frs_R (Frs_S (m := 47) (Frs_1 h) (by decide) (by decide)) (by decide) (by decide)
theorem Frs_3 {M : hMem} {R : hRef} (h : Frs 1 M R) : Frs 164 (hM2 M) (hR2 R) := Frs_R (Frs_H (m := 164) (Frs_R (m := 48) (Frs_2 h) (by decide) (by decide)) (by decide) (by decide) (by decide)) (by decide) (by decide)
theorem Frs_4 {M : hMem} {R : hRef} (h : Frs 1 M R) : Frs 213 (hM3 M) (hR3 R) := Frs_R (Frs_H (m := 213) (Frs_R (m := 165) (Frs_R (m := 165) (Frs_3 h) (by decide) (by decide)) (by decide) (by decide)) (by decide) (by decide) (by decide)) (by decide) (by decide)
theorem Frs_5 {M : hMem} {R : hRef} (h : Frs 1 M R) : Frs 215 (hM4 M) (hR4 R) := Frs_R (Frs_M (m := 215) (Frs_R (m := 215) (Frs_4 h) (by decide) (by decide)) (by decide) (by decide)) (by decide) (by decide)
theorem sty1 (k : Nat) : sty 1 k ≠ 3 := by
  unfold sty
  split <;> first | decide | (simp_all; done)
theorem sty2 (k : Nat) : sty 2 k ≠ 3 := by
  unfold sty
  split <;> first | decide | (simp_all; done)
theorem Frs_new {n ci : Nat} {M : hMem} {R : hRef} (h : Frs n M R) (ht : ty n = (0, ci)) (k : Nat) : M n k = dfl ci k ∧ R n k = 0 := by
  refine ⟨?_, (h n (Nat.le_refl _) k).2⟩
  rw [(h n (Nat.le_refl _) k).1]
  unfold D0
  rw [ht, if_pos rfl]
set_option maxHeartbeats 4000000 in
set_option maxRecDepth 20000 in
theorem c_X6_init (l : Launch) (z : hZt) {M : hMem} {R : hRef} (h1 : Frs 1 M R) : hCt l z m_X6_init [.ref (z.1 + 0)] 1 M R 215 none (hM4 M) (hR4 R) := by
  refine hs_start [some (.ref (z.1 + 0))] (by decide +kernel) rfl (by intro u hu; simp at hu; subst hu <;> first | rfl | exact isR_cat kv_isR | exact isR_cat aref_isR) (Nat.le_of_ble_eq_true rfl) (by omega) (fun X hlX hN hC hQ => ?_)
  dsimp only at hC hQ
  refine gx_aload_n (i := 0) hC dX6_init_0 rfl rfl (by first | exact Or.inr ⟨_, rfl⟩ | exact Or.inl rfl | exact kv_isR | exact aref_isR) ?_
  refine gx_objinit hC dX6_init_1 ml_X6_1 oi_1 oi_2 (by decide) rfl ?_
  refine gx_aload_n (i := 0) hC dX6_init_4 rfl rfl (by first | exact Or.inr ⟨_, rfl⟩ | exact Or.inl rfl | exact kv_isR | exact aref_isR) ?_
  refine gx_new hC dX6_init_5 cL_X6_7 (by decide) (by omega) (fun k _ => Frs_new (h1) (by decide) k) ?_
  refine gx_dup hC dX6_init_8 (by first | rfl | exact isR_cat kv_isR | exact isR_cat aref_isR) ?_
  refine gx_callI hC dX6_init_9 (d_X4_init ty_1 (fun j hj k => ((h1 (1 + j) (by omega) k).1).trans (D0_S ty_1 hj k)) (fun j hj k => (h1 (1 + j) (by omega) k).2)) kY_X4_init kI_X4_init rfl ml_X6_9 (by decide) rfl rfl rfl (by first | exact Nat.le_of_ble_eq_true rfl | (simp [Value.category, isR_cat kv_isR, isR_cat aref_isR]; done)) (by omega) (by omega) ?_
  refine gx_putR hC dX6_init_12 fl_X6_10 (by exact ⟨by omega, rfl⟩) ff_5_0 hN ⟨_, _, rfl⟩ rfl (by decide) (rfl) ?_
  refine gx_aload_n (i := 0) hC dX6_init_15 rfl rfl (by first | exact Or.inr ⟨_, rfl⟩ | exact Or.inl rfl | exact kv_isR | exact aref_isR) ?_
  refine gx_new hC dX6_init_16 cL_X6_7 (by decide) (by omega) (fun k _ => Frs_new (Frs_1 h1) (by decide) k) ?_
  refine gx_dup hC dX6_init_19 (by first | rfl | exact isR_cat kv_isR | exact isR_cat aref_isR) ?_
  refine gx_callI hC dX6_init_20 (d_X4_init ty_24 (fun j hj k => ((Frs_1 h1 (24 + j) (by omega) k).1).trans (D0_S ty_24 hj k)) (fun j hj k => (Frs_1 h1 (24 + j) (by omega) k).2)) kY_X4_init kI_X4_init rfl ml_X6_9 (by decide) rfl rfl rfl (by first | exact Nat.le_of_ble_eq_true rfl | (simp [Value.category, isR_cat kv_isR, isR_cat aref_isR]; done)) (by omega) (by omega) ?_
  refine gx_putR hC dX6_init_23 fl_X6_16 (by exact ⟨by omega, rfl⟩) ff_5_1 hN ⟨_, _, rfl⟩ rfl (by decide) (rfl) ?_
  refine gx_aload_n (i := 0) hC dX6_init_26 rfl rfl (by first | exact Or.inr ⟨_, rfl⟩ | exact Or.inl rfl | exact kv_isR | exact aref_isR) ?_
  refine gx_new hC dX6_init_27 cL_X6_19 (by decide) (by omega) (fun k _ => Frs_new (Frs_2 h1) (by decide) k) ?_
  refine gx_dup hC dX6_init_30 (by first | rfl | exact isR_cat kv_isR | exact isR_cat aref_isR) ?_
  refine gx_callI hC dX6_init_31 (c_X1_init _ _ (M := hM1 M) (R := hR1 R) (Frs_le (Frs_2 h1) (by decide))) kY_X1_init kI_X1_init rfl ml_X6_21 (by decide) rfl rfl rfl (by first | exact Nat.le_of_ble_eq_true rfl | (simp [Value.category, isR_cat kv_isR, isR_cat aref_isR]; done)) (by omega) (by omega) ?_
  refine gx_putR hC dX6_init_34 fl_X6_22 (by exact ⟨by omega, rfl⟩) ff_5_2 hN ⟨_, _, rfl⟩ rfl (by decide) (rfl) ?_
  refine gx_aload_n (i := 0) hC dX6_init_37 rfl rfl (by first | exact Or.inr ⟨_, rfl⟩ | exact Or.inl rfl | exact kv_isR | exact aref_isR) ?_
  refine gx_new hC dX6_init_38 cL_X6_26 (by decide) (by omega) (fun k _ => Frs_new (Frs_3 h1) (by decide) k) ?_
  refine gx_dup hC dX6_init_41 (by first | rfl | exact isR_cat kv_isR | exact isR_cat aref_isR) ?_
  refine gx_callI hC dX6_init_42 (c_X3_init _ _ (M := hM2 M) (R := hR2 R) (Frs_le (Frs_3 h1) (by decide))) kY_X3_init kI_X3_init rfl ml_X6_28 (by decide) rfl rfl rfl (by first | exact Nat.le_of_ble_eq_true rfl | (simp [Value.category, isR_cat kv_isR, isR_cat aref_isR]; done)) (by omega) (by omega) ?_
  refine gx_putR hC dX6_init_45 fl_X6_29 (by exact ⟨by omega, rfl⟩) ff_5_3 hN ⟨_, _, rfl⟩ rfl (by decide) (rfl) ?_
  refine gx_aload_n (i := 0) hC dX6_init_48 rfl rfl (by first | exact Or.inr ⟨_, rfl⟩ | exact Or.inl rfl | exact kv_isR | exact aref_isR) ?_
  refine gx_new hC dX6_init_49 cL_X6_33 (by decide) (by omega) (fun k _ => Frs_new (Frs_4 h1) (by decide) k) ?_
  refine gx_dup hC dX6_init_52 (by first | rfl | exact isR_cat kv_isR | exact isR_cat aref_isR) ?_
  refine gx_callIN hC dX6_init_53 rfl (c_X5_init _ _ (M := hM3 M) (R := hR3 R) (Frs_le (Frs_4 h1) (by decide))) kY_X5_init kI_X5_init (by decide) rfl rfl rfl (by first | exact Nat.le_of_ble_eq_true rfl | (simp [Value.category, isR_cat kv_isR, isR_cat aref_isR]; done)) (by omega) (by omega) ?_
  refine gx_putR hC dX6_init_56 fl_X6_36 (by exact ⟨by omega, rfl⟩) ff_5_4 hN ⟨_, _, rfl⟩ rfl (by decide) (rfl) ?_
  exact gx_vret hC hQ dX6_init_59 (rfl) rfl
