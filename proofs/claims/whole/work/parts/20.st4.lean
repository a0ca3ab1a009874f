/-! copies of a state; its making -/
def sC0 (f g : hMem) : hMem := fun i k => if i = 0 ∧ 2 ≤ k ∧ k ≤ 15 then g 0 k else f i k
def sC1 (f g : hMem) (m : Nat) : hMem := fun i k => if i = 0 ∧ 2 ≤ k ∧ k ≤ 15 then g 0 k else if 3 ≤ i ∧ i < 3 + m ∧ 1 ≤ k ∧ k ≤ 7 then g i k else f i k
def sC2 (f g : hMem) (c m : Nat) : hMem := fun i k => if i = 2 ∧ k < m then g 2 k else sC1 f g c i k
/-- what a copy leaves: all numbers, the levels' aircraft, the aircraft that have entered -/
def sCopy (f g : hMem) (c : Nat) : hMem := sC2 f g c 16
theorem sC1_0 {f g : hMem} : sC1 f g 0 = sC0 f g := by
  funext i k
  unfold sC1 sC0
  split
  · rfl
  · rw [if_neg (by omega)]
theorem sC2_0 {f g : hMem} {c : Nat} : sC2 f g c 0 = sC1 f g c := by
  funext i k
  unfold sC2
  rw [if_neg (by omega)]
theorem sC1_s {M f g : hMem} {o p m : Nat} (hm : m < 20) (hs : p + 23 ≤ o ∨ o + 23 ≤ p) (hg : ∀ i, i < 23 → ∀ k, g i k = M (p + i) k) : cpA (putS M o (sC1 f g m)) (o + (3 + m)) (p + (3 + m)) = putS M o (sC1 f g (m + 1)) := by
  funext b q
  unfold cpA
  by_cases hb : b = o + (3 + m)
  · subst hb
    rw [pSj (by omega), pSj (by omega), pSo (by omega)]
    unfold sC1
    (repeat' split) <;> first | rfl | (exfalso; omega) | (rw [hg _ (by omega)])
  · rw [if_neg (fun h => hb h.1)]
    unfold putS
    split
    · next hi =>
      unfold sC1
      by_cases h0 : b - o = 0 ∧ 2 ≤ q ∧ q ≤ 15
      · rw [if_pos h0, if_pos h0]
      · rw [if_neg h0, if_neg h0]
        by_cases h1 : 3 ≤ b - o ∧ b - o < 3 + m ∧ 1 ≤ q ∧ q ≤ 7
        · rw [if_pos h1, if_pos (by omega)]
        · rw [if_neg h1, if_neg (by omega)]
    · rfl
theorem sC2_s {f g : hMem} {c m : Nat} {v : Int32} (hv : v = g 2 m) : up2 (sC2 f g c m) 2 m v = sC2 f g c (m + 1) := by
  subst hv
  funext b q
  unfold up2 sC2
  by_cases h : b = 2 ∧ q = m
  · rw [if_pos h, if_pos (by omega), h.2]
  · rw [if_neg h]
    by_cases h2 : b = 2 ∧ q < m
    · rw [if_pos h2, if_pos (by omega)]
    · rw [if_neg h2, if_neg (by omega)]
theorem sC0_eq {f g : hMem} : up2 (up2 (up2 (up2 (up2 (up2 (up2 (up2 (up2 (up2 (up2 (up2 (up2 (up2 f 0 2 (g 0 2)) 0 3 (g 0 3)) 0 4 (g 0 4)) 0 5 (g 0 5)) 0 6 (g 0 6)) 0 7 (g 0 7)) 0 8 (g 0 8)) 0 9 (g 0 9)) 0 10 (g 0 10)) 0 11 (g 0 11)) 0 12 (g 0 12)) 0 13 (g 0 13)) 0 14 (g 0 14)) 0 15 (g 0 15) = sC0 f g := by
  funext b q
  unfold sC0 up2
  by_cases hb : b = 0
  · subst hb
    rcases (show q = 2 ∨ q = 3 ∨ q = 4 ∨ q = 5 ∨ q = 6 ∨ q = 7 ∨ q = 8 ∨ q = 9 ∨ q = 10 ∨ q = 11 ∨ q = 12 ∨ q = 13 ∨ q = 14 ∨ q = 15 ∨ q < 2 ∨ 15 < q by omega) with rfl | rfl | rfl | rfl | rfl | rfl | rfl | rfl | rfl | rfl | rfl | rfl | rfl | rfl | h | h
    all_goals first | (simp; done) | (simp only [true_and]; repeat' rw [if_neg (by omega)])
  · simp [hb]
theorem d_X4_numbered {l : Launch} {z : hZt} {n : Nat} {M : hMem} {R : hRef} {o : Nat} (hS : hSt n R o) (x : Int32) :
    hCt l z m_X4_numbered [.ref (z.1 + o), .int x] n M R n (some (aref z o (sNum (getS M o) x))) M R := by
  have h := c_X4_numbered l z (M := M) (R := R) hS (f := getS M o) x
  rw [putS_get] at h
  exact h
theorem sNum_of {f : hMem} {m c : Nat} (h : f 0 2 = nI c) (hm : m < c) (hc : c ≤ 20) : sNum f (nI m) = some m := by
  unfold sNum
  rw [h, if_pos ⟨by rw [Int32.le_iff_toInt_le, nI_toInt (by omega), Int32.toInt_zero]; omega, (nI_ltI (by omega) (by omega)).mpr hm, (nI_ltI (by omega) (by decide)).mpr (by omega)⟩, nI_clamp (by omega)]
set_option maxHeartbeats 4000000 in
set_option maxRecDepth 20000 in
theorem c_X4_copyFrom (l : Launch) (z : hZt) {n : Nat} {M : hMem} {R : hRef} {o : Nat} (hS : hSt n R o) {f : hMem} {p c : Nat} (hT : hSt n R p) (hs : p + 23 ≤ o ∨ o + 23 ≤ p) {g : hMem} (hg : ∀ i, i < 23 → ∀ k, g i k = M (p + i) k) (hcg : g 0 2 = nI c) (hc : c ≤ 20) : hCt l z m_X4_copyFrom [.ref (z.1 + o), .ref (z.1 + p)] n (putS M o f) R n none (putS M o (sCopy f g c)) R := by
  refine hs_start [some (.ref (z.1 + o)), some (.ref (z.1 + p)), none, none] (by decide +kernel) rfl (by intro u hu; simp at hu; rcases hu with rfl | rfl <;> first | rfl | exact isR_cat kv_isR | exact isR_cat aref_isR) (Nat.le_of_ble_eq_true rfl) (Nat.le_refl _) (fun X hlX hN hC hQ => ?_)
  dsimp only at hC hQ
  have hs2 : p < o ∨ o + 23 ≤ p := by omega
  have hg0 : ∀ k, g 0 k = M p k := fun k => hg 0 (by decide) k
  have loop_159 : ∀ (k : Nat) (m : Nat) (w : Option Value), 16 - m < k → m ≤ 16 → hG z n X n (putS M o (sC2 f g c m)) R 159 [some (.ref (z.1 + o)), some (.ref (z.1 + p)), some (.int (nI m)), w] [] := by
    intro k
    induction k with
    | zero => intros; omega
    | succ k ih =>
      intro m w hk1 hm
      refine gx_iload_n (i := 2) hC dX4_copyFrom_159 rfl rfl ?_
      refine gx_aload_n (i := 0) hC dX4_copyFrom_160 rfl rfl (by first | exact Or.inr ⟨_, rfl⟩ | exact Or.inl rfl | exact kv_isR | exact aref_isR) ?_
      refine gx_getR hC dX4_copyFrom_161 fl_X4_17 (by first | exact hS.aa | exact hS.ah | exact hS.at) rfl (hS.rh) (by have := hS.1; omega) ?_
      refine gx_alenN hC dX4_copyFrom_164 (by exact hS.ah) (by decide) ?_
      refine gx_icmp_ge (tgt := 195) hC dX4_copyFrom_165 (by decide) (fun c_165 => ?_) (fun c_165 => ?_)
      · have d_165 := cle (by omega) (by omega) c_165
        exact gx_vret hC hQ dX4_copyFrom_195 (by rw [show m = 16 by omega]; rfl) rfl
      · have d_165 := cnle (by omega) (by omega) c_165
        refine gx_iload_n (i := 2) hC dX4_copyFrom_168 rfl rfl ?_
        refine gx_aload_n (i := 1) hC dX4_copyFrom_169 rfl rfl (by first | exact Or.inr ⟨_, rfl⟩ | exact Or.inl rfl | exact kv_isR | exact aref_isR) ?_
        refine gx_getR hC dX4_copyFrom_170 fl_X4_17 (by exact hT.at) rfl (hT.rh) (by have := hS.1; omega) ?_
        refine gx_alenN hC dX4_copyFrom_173 (by exact hT.ah) (by decide) ?_
        refine gx_icmp_ge (tgt := 195) hC dX4_copyFrom_174 (by decide) (fun c_174 => ?_) (fun c_174 => ?_)
        · have d_174 := cle (by omega) (by omega) c_174
          exact gx_vret hC hQ dX4_copyFrom_195 (by rw [show m = 16 by omega]; rfl) rfl
        · have d_174 := cnle (by omega) (by omega) c_174
          refine gx_aload_n (i := 0) hC dX4_copyFrom_177 rfl rfl (by first | exact Or.inr ⟨_, rfl⟩ | exact Or.inl rfl | exact kv_isR | exact aref_isR) ?_
          refine gx_getR hC dX4_copyFrom_178 fl_X4_17 (by exact hS.at) rfl (hS.rh) (by have := hS.1; omega) ?_
          refine gx_iload_n (i := 2) hC dX4_copyFrom_181 rfl rfl ?_
          refine gx_aload_n (i := 1) hC dX4_copyFrom_182 rfl rfl (by first | exact Or.inr ⟨_, rfl⟩ | exact Or.inl rfl | exact kv_isR | exact aref_isR) ?_
          refine gx_getR hC dX4_copyFrom_183 fl_X4_17 (by exact hT.at) rfl (hT.rh) (by have := hS.1; omega) ?_
          refine gx_iload_n (i := 2) hC dX4_copyFrom_186 rfl rfl ?_
          refine gx_iald hC dX4_copyFrom_187 (by exact hT.ah) (by exact vpn (by omega) (by decide)) ((congrArg _ (nI_clamp (by omega))).trans ((pSo (by omega)).trans (hg 2 (by decide) _).symm)) ?_
          refine gx_iastM hC dX4_copyFrom_188 (by exact hS.ah) (by exact vpn (by omega) (by decide)) ((congrArg (fun q => up2 (putS M o (sC2 f g c m)) (o + 2) q (g 2 m)) (nI_clamp (by omega))).trans ((up_S (by omega)).trans (congrArg (putS M o) (sC2_s rfl)))) ?_
          refine gx_iinc (i := 2) (L' := [_, _, _, _]) hC dX4_copyFrom_189 rfl (ii_1 _) (Nat.le_of_ble_eq_true rfl) rfl (fun u h9 => by first | exact Or.inl rfl | (cases h9; done) | (right; cases h9; first | rfl | exact isR_cat aref_isR | exact isR_cat kv_isR)) ?_
          refine gx_goto (tgt := 159) hC dX4_copyFrom_192 (by decide) ?_
          exact ih (m + 1) _ (by omega) (by omega)
  refine gx_aload_n (i := 0) hC dX4_copyFrom_0 rfl rfl (by first | exact Or.inr ⟨_, rfl⟩ | exact Or.inl rfl | exact kv_isR | exact aref_isR) ?_
  refine gx_aload_n (i := 1) hC dX4_copyFrom_1 rfl rfl (by first | exact Or.inr ⟨_, rfl⟩ | exact Or.inl rfl | exact kv_isR | exact aref_isR) ?_
  refine gx_getI hC dX4_copyFrom_2 fl_X4_47 (by exact hT.at) (by decide) ((pSo hs2).trans (hg0 _).symm) ?_
  refine gx_putI hC dX4_copyFrom_5 fl_X4_47 (by exact hS.at) fn_3_2 rfl (up_S0) ?_
  refine gx_aload_n (i := 0) hC dX4_copyFrom_8 rfl rfl (by first | exact Or.inr ⟨_, rfl⟩ | exact Or.inl rfl | exact kv_isR | exact aref_isR) ?_
  refine gx_aload_n (i := 1) hC dX4_copyFrom_9 rfl rfl (by first | exact Or.inr ⟨_, rfl⟩ | exact Or.inl rfl | exact kv_isR | exact aref_isR) ?_
  refine gx_getI hC dX4_copyFrom_10 fl_X4_21 (by exact hT.at) (by decide) ((pSo hs2).trans (hg0 _).symm) ?_
  refine gx_putI hC dX4_copyFrom_13 fl_X4_21 (by exact hS.at) fn_3_3 rfl (up_S0) ?_
  refine gx_aload_n (i := 0) hC dX4_copyFrom_16 rfl rfl (by first | exact Or.inr ⟨_, rfl⟩ | exact Or.inl rfl | exact kv_isR | exact aref_isR) ?_
  refine gx_aload_n (i := 1) hC dX4_copyFrom_17 rfl rfl (by first | exact Or.inr ⟨_, rfl⟩ | exact Or.inl rfl | exact kv_isR | exact aref_isR) ?_
  refine gx_getI hC dX4_copyFrom_18 fl_X4_25 (by exact hT.at) (by decide) ((pSo hs2).trans (hg0 _).symm) ?_
  refine gx_putI hC dX4_copyFrom_21 fl_X4_25 (by exact hS.at) fn_3_4 rfl (up_S0) ?_
  refine gx_aload_n (i := 0) hC dX4_copyFrom_24 rfl rfl (by first | exact Or.inr ⟨_, rfl⟩ | exact Or.inl rfl | exact kv_isR | exact aref_isR) ?_
  refine gx_aload_n (i := 1) hC dX4_copyFrom_25 rfl rfl (by first | exact Or.inr ⟨_, rfl⟩ | exact Or.inl rfl | exact kv_isR | exact aref_isR) ?_
  refine gx_getI hC dX4_copyFrom_26 fl_X4_28 (by exact hT.at) (by decide) ((pSo hs2).trans (hg0 _).symm) ?_
  refine gx_putI hC dX4_copyFrom_29 fl_X4_28 (by exact hS.at) fn_3_5 rfl (up_S0) ?_
  refine gx_aload_n (i := 0) hC dX4_copyFrom_32 rfl rfl (by first | exact Or.inr ⟨_, rfl⟩ | exact Or.inl rfl | exact kv_isR | exact aref_isR) ?_
  refine gx_aload_n (i := 1) hC dX4_copyFrom_33 rfl rfl (by first | exact Or.inr ⟨_, rfl⟩ | exact Or.inl rfl | exact kv_isR | exact aref_isR) ?_
  refine gx_getZ hC dX4_copyFrom_34 fl_X4_31 (by exact hT.at) rfl ((pSo hs2).trans (hg0 _).symm) (fun hz_34 => ?_)
  refine gx_putZ hC dX4_copyFrom_37 fl_X4_31 (by exact hS.at) fn_3_6 rfl (by first | exact Or.inl rfl | exact Or.inr rfl | exact b2_bit _ | assumption) (up_S0) ?_
  refine gx_aload_n (i := 0) hC dX4_copyFrom_40 rfl rfl (by first | exact Or.inr ⟨_, rfl⟩ | exact Or.inl rfl | exact kv_isR | exact aref_isR) ?_
  refine gx_aload_n (i := 1) hC dX4_copyFrom_41 rfl rfl (by first | exact Or.inr ⟨_, rfl⟩ | exact Or.inl rfl | exact kv_isR | exact aref_isR) ?_
  refine gx_getZ hC dX4_copyFrom_42 fl_X4_35 (by exact hT.at) rfl ((pSo hs2).trans (hg0 _).symm) (fun hz_42 => ?_)
  refine gx_putZ hC dX4_copyFrom_45 fl_X4_35 (by exact hS.at) fn_3_7 rfl (by first | exact Or.inl rfl | exact Or.inr rfl | exact b2_bit _ | assumption) (up_S0) ?_
  refine gx_aload_n (i := 0) hC dX4_copyFrom_48 rfl rfl (by first | exact Or.inr ⟨_, rfl⟩ | exact Or.inl rfl | exact kv_isR | exact aref_isR) ?_
  refine gx_aload_n (i := 1) hC dX4_copyFrom_49 rfl rfl (by first | exact Or.inr ⟨_, rfl⟩ | exact Or.inl rfl | exact kv_isR | exact aref_isR) ?_
  refine gx_getI hC dX4_copyFrom_50 fl_X4_50 (by exact hT.at) (by decide) ((pSo hs2).trans (hg0 _).symm) ?_
  refine gx_putI hC dX4_copyFrom_53 fl_X4_50 (by exact hS.at) fn_3_8 rfl (up_S0) ?_
  refine gx_aload_n (i := 0) hC dX4_copyFrom_56 rfl rfl (by first | exact Or.inr ⟨_, rfl⟩ | exact Or.inl rfl | exact kv_isR | exact aref_isR) ?_
  refine gx_aload_n (i := 1) hC dX4_copyFrom_57 rfl rfl (by first | exact Or.inr ⟨_, rfl⟩ | exact Or.inl rfl | exact kv_isR | exact aref_isR) ?_
  refine gx_getI hC dX4_copyFrom_58 fl_X4_53 (by exact hT.at) (by decide) ((pSo hs2).trans (hg0 _).symm) ?_
  refine gx_putI hC dX4_copyFrom_61 fl_X4_53 (by exact hS.at) fn_3_9 rfl (up_S0) ?_
  refine gx_aload_n (i := 0) hC dX4_copyFrom_64 rfl rfl (by first | exact Or.inr ⟨_, rfl⟩ | exact Or.inl rfl | exact kv_isR | exact aref_isR) ?_
  refine gx_aload_n (i := 1) hC dX4_copyFrom_65 rfl rfl (by first | exact Or.inr ⟨_, rfl⟩ | exact Or.inl rfl | exact kv_isR | exact aref_isR) ?_
  refine gx_getI hC dX4_copyFrom_66 fl_X4_56 (by exact hT.at) (by decide) ((pSo hs2).trans (hg0 _).symm) ?_
  refine gx_putI hC dX4_copyFrom_69 fl_X4_56 (by exact hS.at) fn_3_10 rfl (up_S0) ?_
  refine gx_aload_n (i := 0) hC dX4_copyFrom_72 rfl rfl (by first | exact Or.inr ⟨_, rfl⟩ | exact Or.inl rfl | exact kv_isR | exact aref_isR) ?_
  refine gx_aload_n (i := 1) hC dX4_copyFrom_73 rfl rfl (by first | exact Or.inr ⟨_, rfl⟩ | exact Or.inl rfl | exact kv_isR | exact aref_isR) ?_
  refine gx_getI hC dX4_copyFrom_74 fl_X4_59 (by exact hT.at) (by decide) ((pSo hs2).trans (hg0 _).symm) ?_
  refine gx_putI hC dX4_copyFrom_77 fl_X4_59 (by exact hS.at) fn_3_11 rfl (up_S0) ?_
  refine gx_aload_n (i := 0) hC dX4_copyFrom_80 rfl rfl (by first | exact Or.inr ⟨_, rfl⟩ | exact Or.inl rfl | exact kv_isR | exact aref_isR) ?_
  refine gx_aload_n (i := 1) hC dX4_copyFrom_81 rfl rfl (by first | exact Or.inr ⟨_, rfl⟩ | exact Or.inl rfl | exact kv_isR | exact aref_isR) ?_
  refine gx_getI hC dX4_copyFrom_82 fl_X4_62 (by exact hT.at) (by decide) ((pSo hs2).trans (hg0 _).symm) ?_
  refine gx_putI hC dX4_copyFrom_85 fl_X4_62 (by exact hS.at) fn_3_12 rfl (up_S0) ?_
  refine gx_aload_n (i := 0) hC dX4_copyFrom_88 rfl rfl (by first | exact Or.inr ⟨_, rfl⟩ | exact Or.inl rfl | exact kv_isR | exact aref_isR) ?_
  refine gx_aload_n (i := 1) hC dX4_copyFrom_89 rfl rfl (by first | exact Or.inr ⟨_, rfl⟩ | exact Or.inl rfl | exact kv_isR | exact aref_isR) ?_
  refine gx_getI hC dX4_copyFrom_90 fl_X4_65 (by exact hT.at) (by decide) ((pSo hs2).trans (hg0 _).symm) ?_
  refine gx_putI hC dX4_copyFrom_93 fl_X4_65 (by exact hS.at) fn_3_13 rfl (up_S0) ?_
  refine gx_aload_n (i := 0) hC dX4_copyFrom_96 rfl rfl (by first | exact Or.inr ⟨_, rfl⟩ | exact Or.inl rfl | exact kv_isR | exact aref_isR) ?_
  refine gx_aload_n (i := 1) hC dX4_copyFrom_97 rfl rfl (by first | exact Or.inr ⟨_, rfl⟩ | exact Or.inl rfl | exact kv_isR | exact aref_isR) ?_
  refine gx_getI hC dX4_copyFrom_98 fl_X4_68 (by exact hT.at) (by decide) ((pSo hs2).trans (hg0 _).symm) ?_
  refine gx_putI hC dX4_copyFrom_101 fl_X4_68 (by exact hS.at) fn_3_14 rfl (up_S0) ?_
  refine gx_aload_n (i := 0) hC dX4_copyFrom_104 rfl rfl (by first | exact Or.inr ⟨_, rfl⟩ | exact Or.inl rfl | exact kv_isR | exact aref_isR) ?_
  refine gx_aload_n (i := 1) hC dX4_copyFrom_105 rfl rfl (by first | exact Or.inr ⟨_, rfl⟩ | exact Or.inl rfl | exact kv_isR | exact aref_isR) ?_
  refine gx_getI hC dX4_copyFrom_106 fl_X4_71 (by exact hT.at) (by decide) ((pSo hs2).trans (hg0 _).symm) ?_
  refine gx_putI hC dX4_copyFrom_109 fl_X4_71 (by exact hS.at) fn_3_15 rfl (up_S0) ?_
  refine gx_iconst (v := nI 0) hC dX4_copyFrom_112 ic_0n ?_
  refine gx_istore_n (i := 2) (L' := [_, _, _, _]) hC dX4_copyFrom_113 rfl (Nat.le_of_ble_eq_true rfl) rfl (fun u h9 => by first | exact Or.inl rfl | (cases h9; done) | (right; cases h9; first | rfl | exact isR_cat aref_isR | exact isR_cat kv_isR)) ?_
  have loop_114 : ∀ (k : Nat) (m : Nat) (w : Option Value), c - m < k → m ≤ c → hG z n X n (putS M o (sC1 f g m)) R 114 [some (.ref (z.1 + o)), some (.ref (z.1 + p)), some (.int (nI m)), w] [] := by
    intro k
    induction k with
    | zero => intros; omega
    | succ k ih =>
      intro m w hk1 hm
      refine gx_iload_n (i := 2) hC dX4_copyFrom_114 rfl rfl ?_
      refine gx_aload_n (i := 0) hC dX4_copyFrom_115 rfl rfl (by first | exact Or.inr ⟨_, rfl⟩ | exact Or.inl rfl | exact kv_isR | exact aref_isR) ?_
      refine gx_getR hC dX4_copyFrom_116 fl_X4_11 (by exact hS.at) rfl (hS.ra) (by have := hS.1; omega) ?_
      refine gx_alenN hC dX4_copyFrom_119 (by exact hS.aa) (by decide) ?_
      refine gx_icmp_ge (tgt := 157) hC dX4_copyFrom_120 (by decide) (fun c_120 => ?_) (fun c_120 => ?_)
      · have d_120 := cle (by omega) (by omega) c_120
        obtain rfl : m = c := by omega
        rw [← sC2_0]
        refine gx_iconst (v := nI 0) hC dX4_copyFrom_157 ic_0n ?_
        refine gx_istore_n (i := 2) (L' := [_, _, _, _]) hC dX4_copyFrom_158 rfl (Nat.le_of_ble_eq_true rfl) rfl (fun u h9 => by first | exact Or.inl rfl | (cases h9; done) | (right; cases h9; first | rfl | exact isR_cat aref_isR | exact isR_cat kv_isR)) ?_
        exact loop_159 17 0 _ (by omega) (by omega)
      · have d_120 := cnle (by omega) (by omega) c_120
        refine gx_iload_n (i := 2) hC dX4_copyFrom_123 rfl rfl ?_
        refine gx_aload_n (i := 0) hC dX4_copyFrom_124 rfl rfl (by first | exact Or.inr ⟨_, rfl⟩ | exact Or.inl rfl | exact kv_isR | exact aref_isR) ?_
        refine gx_getI hC dX4_copyFrom_125 fl_X4_47 (by exact hS.at) (by decide) (pS0.trans (show _ = nI c from (by simp [sC1, hcg]))) ?_
        refine gx_icmp_ge (tgt := 157) hC dX4_copyFrom_128 (by decide) (fun c_128 => ?_) (fun c_128 => ?_)
        · have d_128 := cle (by omega) (by omega) c_128
          obtain rfl : m = c := by omega
          rw [← sC2_0]
          refine gx_iconst (v := nI 0) hC dX4_copyFrom_157 ic_0n ?_
          refine gx_istore_n (i := 2) (L' := [_, _, _, _]) hC dX4_copyFrom_158 rfl (Nat.le_of_ble_eq_true rfl) rfl (fun u h9 => by first | exact Or.inl rfl | (cases h9; done) | (right; cases h9; first | rfl | exact isR_cat aref_isR | exact isR_cat kv_isR)) ?_
          exact loop_159 17 0 _ (by omega) (by omega)
        · have d_128 := cnle (by omega) (by omega) c_128
          have hnm : sNum (getS (putS M o (sC1 f g m)) p) (nI m) = some m := sNum_of (by unfold getS; rw [if_pos (by decide)]; exact (pSo hs2).trans ((hg0 2).symm.trans hcg)) d_128 hc
          refine gx_aload_n (i := 1) hC dX4_copyFrom_131 rfl rfl (by first | exact Or.inr ⟨_, rfl⟩ | exact Or.inl rfl | exact kv_isR | exact aref_isR) ?_
          refine gx_iload_n (i := 2) hC dX4_copyFrom_132 rfl rfl ?_
          refine gx_callV1 hC dX4_copyFrom_133 (d_X4_numbered hT _) kY_X4_numbered kV_X4_numbered ml_X4_74 (by exact hT.at) rfl (by decide) rfl rfl rfl (by first | exact Nat.le_of_ble_eq_true rfl | (simp [Value.category, isR_cat kv_isR, isR_cat aref_isR]; done)) (Nat.le_refl _) (Nat.le_refl _) ?_
          rw [hnm, aref_some]
          refine gx_astore_n (i := 3) (L' := [_, _, _, _]) hC dX4_copyFrom_136 rfl (Nat.le_of_ble_eq_true rfl) rfl (fun u h9 => by first | exact Or.inl rfl | (cases h9; done) | (right; cases h9; first | rfl | exact isR_cat aref_isR | exact isR_cat kv_isR)) (by first | exact Or.inr ⟨_, rfl⟩ | exact Or.inl rfl | exact kv_isR | exact aref_isR) ?_
          refine gx_aload_n (i := 3) hC dX4_copyFrom_137 rfl rfl (by first | exact Or.inr ⟨_, rfl⟩ | exact Or.inl rfl | exact kv_isR | exact aref_isR) ?_
          refine gx_ifnull_ref hC dX4_copyFrom_138 ?_
          refine gx_aload_n (i := 0) hC dX4_copyFrom_141 rfl rfl (by first | exact Or.inr ⟨_, rfl⟩ | exact Or.inl rfl | exact kv_isR | exact aref_isR) ?_
          refine gx_getR hC dX4_copyFrom_142 fl_X4_11 (by exact hS.at) rfl (hS.ra) (by have := hS.1; omega) ?_
          refine gx_iload_n (i := 2) hC dX4_copyFrom_145 rfl rfl ?_
          refine gx_aald hC dX4_copyFrom_146 (by exact hS.aa) (by first | exact Or.inl rfl | exact Or.inr rfl) (by exact vpn (by omega) (by decide)) ((congrArg (R (o + 1)) (nI_clamp (by omega))).trans (hS.rc (by omega))) (by have := hS.1; omega) ?_
          refine gx_aload_n (i := 3) hC dX4_copyFrom_147 rfl rfl (by first | exact Or.inr ⟨_, rfl⟩ | exact Or.inl rfl | exact kv_isR | exact aref_isR) ?_
          refine gx_callV0 hC dX4_copyFrom_148 (c_X0_copyFrom _ _ (hS.ac (show m < 20 by omega)) (hT.ac (show m < 20 by omega)) (by omega)) kY_X0_copyFrom kV_X0_copyFrom ml_X4_78 (by exact hS.ac (by omega)) rfl (by decide) rfl rfl rfl (by first | exact Nat.le_of_ble_eq_true rfl | (simp [Value.category, isR_cat kv_isR, isR_cat aref_isR]; done)) (Nat.le_refl _) (Nat.le_refl _) ?_
          refine gx_iinc (i := 2) (L' := [_, _, _, _]) hC dX4_copyFrom_151 rfl (ii_1 _) (Nat.le_of_ble_eq_true rfl) rfl (fun u h9 => by first | exact Or.inl rfl | (cases h9; done) | (right; cases h9; first | rfl | exact isR_cat aref_isR | exact isR_cat kv_isR)) ?_
          refine gx_goto (tgt := 114) hC dX4_copyFrom_154 (by decide) ?_
          have h9 := fun w => ih (m + 1) w (by omega) (by omega)
          rw [← sC1_s (by omega) hs hg] at h9
          exact h9 _
  rw [sC0_eq, ← sC1_0]
  exact loop_114 (c + 1) 0 _ (by omega) (by omega)
/-! making an aircraft, a state -/
def dS : hMem := fun i k => if i = 0 ∨ i = 1 ∨ i = 2 then 0 else if k = 1 then -1 else 0
def rS (R : hRef) (o : Nat) : hRef := fun i k => if i = o ∧ k = 0 then o + 1 else if i = o ∧ k = 1 then o + 2 else if i = o + 1 ∧ k < 20 then o + (3 + k) else R i k
def rL (R : hRef) (o j : Nat) : hRef := fun i k => if i = o ∧ k = 0 then o + 1 else if i = o ∧ k = 1 then o + 2 else if i = o + 1 ∧ k < j then o + (3 + k) else R i k
def iS0 : hMem := up2 (up2 (up2 (up2 (up2 dS 0 3 10) 0 4 4) 0 5 16) 0 6 1) 0 7 1
def iL (j : Nat) : hMem := fun i k => if 3 ≤ i ∧ i < 3 + j ∧ k = 0 then nI (i - 3) else if 3 ≤ i ∧ i < 3 + j ∧ k = 1 then 0 else iS0 i k
def iS : hMem := sFill (iL 20) (-6)
theorem iL_s {j : Nat} : up2 (up2 (iL j) (3 + j) 1 (nI 0)) (3 + j) 0 (nI j) = iL (j + 1) := by
  funext b q
  unfold up2 iL
  have e0 : nI 0 = 0 := rfl
  by_cases hb : b = 3 + j
  · subst hb
    by_cases h0 : q = 0
    · subst h0
      rw [if_pos ⟨rfl, rfl⟩, if_pos (by omega)]
      congr 1
      omega
    · rw [if_neg (fun h => h0 h.2)]
      by_cases h1 : q = 1
      · subst h1
        rw [if_pos ⟨rfl, rfl⟩, if_neg (by omega), if_pos (by omega), e0]
      · rw [if_neg (fun h => h1 h.2)]
        (repeat' split) <;> first | rfl | (exfalso; omega)
  · rw [if_neg (fun h => hb h.1), if_neg (fun h => hb h.1)]
    (repeat' split) <;> first | rfl | (exfalso; omega)
theorem rL_s {R : hRef} {o j : Nat} : up2 (rL R o j) (o + 1) j (o + (3 + j)) = rL R o (j + 1) := by
  funext b q
  unfold up2 rL
  (repeat' split) <;> first | rfl | (exfalso; omega) | omega
theorem iL_0 : iL 0 = iS0 := by
  funext b q
  unfold iL
  rw [if_neg (by omega), if_neg (by omega)]
theorem rL_0 {R : hRef} {o : Nat} : up2 (up2 R o 0 (o + 1)) o 1 (o + 1 + 1) = rL R o 0 := by
  funext b q
  unfold up2 rL
  (repeat' split) <;> first | rfl | (exfalso; omega) | omega
theorem rL_20 {R : hRef} {o : Nat} : rL R o 20 = rS R o := rfl
theorem putS_d {M : hMem} {o : Nat} (h : ∀ j, j < 23 → ∀ k, M (o + j) k = dS j k) : putS M o dS = M := by
  funext i k
  unfold putS
  split
  · next hi => rw [← h (i - o) (by omega) k, show o + (i - o) = i by omega]
  · rfl
set_option maxHeartbeats 4000000 in
set_option maxRecDepth 20000 in
theorem c_X0_init (l : Launch) (z : hZt) {n : Nat} {M : hMem} {R : hRef} {i : Nat} (ha : hAt n i (0, 0)) (x : Int32) : hCt l z m_X0_init [.ref (z.1 + i), .int x] n M R n none (up2 (up2 M i 1 (nI 0)) i 0 x) R := by
  refine hs_start [some (.ref (z.1 + i)), some (.int x)] (by decide +kernel) rfl (by intro u hu; simp at hu; rcases hu with rfl | rfl <;> first | rfl | exact isR_cat kv_isR | exact isR_cat aref_isR) (Nat.le_of_ble_eq_true rfl) (Nat.le_refl _) (fun X hlX hN hC hQ => ?_)
  dsimp only at hC hQ
  refine gx_aload_n (i := 0) hC dX0_init_0 rfl rfl (by first | exact Or.inr ⟨_, rfl⟩ | exact Or.inl rfl | exact kv_isR | exact aref_isR) ?_
  refine gx_objinit hC dX0_init_1 ml_X0_3 oi_1 oi_2 (by decide) rfl ?_
  refine gx_aload_n (i := 0) hC dX0_init_4 rfl rfl (by first | exact Or.inr ⟨_, rfl⟩ | exact Or.inl rfl | exact kv_isR | exact aref_isR) ?_
  refine gx_getstatic hC dX0_init_5 0 (by decide) fl_X0_9 ?_
  refine gx_putE hC dX0_init_8 fl_X0_15 (by assumption) fn_0_1 rfl (rfl) ?_
  refine gx_aload_n (i := 0) hC dX0_init_11 rfl rfl (by first | exact Or.inr ⟨_, rfl⟩ | exact Or.inl rfl | exact kv_isR | exact aref_isR) ?_
  refine gx_iload_n (i := 1) hC dX0_init_12 rfl rfl ?_
  refine gx_putFI hC dX0_init_13 fl_X0_20 (by assumption) ff_0_0 hN ⟨_, _, rfl⟩ rfl (rfl) ?_
  exact gx_vret hC hQ dX0_init_16 (rfl) rfl
theorem iL_d {j k : Nat} (h : j < 20) : iL j (3 + j) k = dfl 0 k := by
  unfold iL
  rw [if_neg (by omega), if_neg (by omega)]
  unfold iS0
  rw [up2_off (by omega), up2_off (by omega), up2_off (by omega), up2_off (by omega), up2_off (by omega)]
  unfold dS dfl
  rw [if_neg (by omega)]
  by_cases h1 : k = 1
  · subst h1; rfl
  · rw [if_neg h1]
    unfold sty
    split <;> first | rfl | simp_all
theorem rL_o {R : hRef} {o j i k : Nat} (h : o + 2 ≤ i) : rL R o j i k = R i k := by
  unfold rL
  rw [if_neg (by omega), if_neg (by omega), if_neg (by omega)]
set_option maxHeartbeats 4000000 in
set_option maxRecDepth 20000 in
theorem c_X4_init (l : Launch) (z : hZt) {M : hMem} {R : hRef} {o : Nat} (hty : ∀ j, j < 23 → ty (o + j) = tyS j) (hR : ∀ j, j < 23 → ∀ k, R (o + j) k = 0) : hCt l z m_X4_init [.ref (z.1 + o)] (o + 1) (putS M o dS) R (o + 23) none (putS M o iS) (rS R o) := by
  refine hs_start [some (.ref (z.1 + o)), none] (by decide +kernel) rfl (by intro u hu; simp at hu; subst hu <;> first | rfl | exact isR_cat kv_isR | exact isR_cat aref_isR) (Nat.le_of_ble_eq_true rfl) (by omega) (fun X hlX hN hC hQ => ?_)
  dsimp only at hC hQ
  have h0 : ∀ m, o < m → hAt m o (0, 3) := fun m hm => ⟨hm, hty 0 (by decide)⟩
  have h1 : ∀ m, o + 1 < m → hAt m (o + 1) (4, 20) := fun m hm => ⟨hm, hty 1 (by decide)⟩
  have h2 : ∀ m, o + 2 < m → hAt m (o + 2) (1, 16) := fun m hm => ⟨hm, hty 2 (by decide)⟩
  have h3 : ∀ m j, j < 20 → o + (3 + j) < m → hAt m (o + (3 + j)) (0, 0) := fun m j hj hm => ⟨hm, by rw [hty (3 + j) (by omega)]; unfold tyS; rw [if_neg (by omega), if_neg (by omega), if_neg (by omega)]⟩
  refine gx_aload_n (i := 0) hC dX4_init_0 rfl rfl (by first | exact Or.inr ⟨_, rfl⟩ | exact Or.inl rfl | exact kv_isR | exact aref_isR) ?_
  refine gx_objinit hC dX4_init_1 ml_X4_3 oi_1 oi_2 (by decide) rfl ?_
  refine gx_aload_n (i := 0) hC dX4_init_4 rfl rfl (by first | exact Or.inr ⟨_, rfl⟩ | exact Or.inl rfl | exact kv_isR | exact aref_isR) ?_
  refine gx_bipush (v := 20) hC dX4_init_5 bp_20 ?_
  refine gx_anewarray hC dX4_init_7 (by first | exact Or.inl ⟨rfl, rfl⟩ | exact Or.inr ⟨rfl, rfl⟩) (hty 1 (by decide)) cl_X4_9 (by omega) (fun k _ => hR 1 (by decide) k) (rfl) (by decide) ?_
  refine gx_putR hC dX4_init_10 fl_X4_11 (by first | exact h0 _ (by omega) | exact h1 _ (by omega) | exact h2 _ (by omega) | exact h3 _ _ (by omega) (by omega)) ff_3_0 hN ⟨_, _, rfl⟩ rfl (by omega) (rfl) ?_
  refine gx_aload_n (i := 0) hC dX4_init_13 rfl rfl (by first | exact Or.inr ⟨_, rfl⟩ | exact Or.inl rfl | exact kv_isR | exact aref_isR) ?_
  refine gx_bipush (v := 16) hC dX4_init_14 bp_16 ?_
  refine gx_newarray hC dX4_init_16 (Or.inl ⟨rfl, rfl⟩) (hty 2 (by decide)) ac_int (by omega) (fun k _ => (pSj (j := 2) (by decide)).trans rfl) (rfl) (by decide) ?_
  refine gx_putR hC dX4_init_18 fl_X4_17 (by first | exact h0 _ (by omega) | exact h1 _ (by omega) | exact h2 _ (by omega) | exact h3 _ _ (by omega) (by omega)) ff_3_1 hN ⟨_, _, rfl⟩ rfl (by omega) (rfl) ?_
  refine gx_aload_n (i := 0) hC dX4_init_21 rfl rfl (by first | exact Or.inr ⟨_, rfl⟩ | exact Or.inl rfl | exact kv_isR | exact aref_isR) ?_
  refine gx_bipush (v := 10) hC dX4_init_22 bp_10 ?_
  refine gx_putI hC dX4_init_24 fl_X4_21 (by first | exact h0 _ (by omega) | exact h1 _ (by omega) | exact h2 _ (by omega) | exact h3 _ _ (by omega) (by omega)) fn_3_3 rfl (up_S0) ?_
  refine gx_aload_n (i := 0) hC dX4_init_27 rfl rfl (by first | exact Or.inr ⟨_, rfl⟩ | exact Or.inl rfl | exact kv_isR | exact aref_isR) ?_
  refine gx_iconst (v := 4) hC dX4_init_28 ic_4 ?_
  refine gx_putI hC dX4_init_29 fl_X4_25 (by first | exact h0 _ (by omega) | exact h1 _ (by omega) | exact h2 _ (by omega) | exact h3 _ _ (by omega) (by omega)) fn_3_4 rfl (up_S0) ?_
  refine gx_aload_n (i := 0) hC dX4_init_32 rfl rfl (by first | exact Or.inr ⟨_, rfl⟩ | exact Or.inl rfl | exact kv_isR | exact aref_isR) ?_
  refine gx_bipush (v := 16) hC dX4_init_33 bp_16 ?_
  refine gx_putI hC dX4_init_35 fl_X4_28 (by first | exact h0 _ (by omega) | exact h1 _ (by omega) | exact h2 _ (by omega) | exact h3 _ _ (by omega) (by omega)) fn_3_5 rfl (up_S0) ?_
  refine gx_aload_n (i := 0) hC dX4_init_38 rfl rfl (by first | exact Or.inr ⟨_, rfl⟩ | exact Or.inl rfl | exact kv_isR | exact aref_isR) ?_
  refine gx_iconst (v := 1) hC dX4_init_39 ic_1 ?_
  refine gx_putZ hC dX4_init_40 fl_X4_31 (by first | exact h0 _ (by omega) | exact h1 _ (by omega) | exact h2 _ (by omega) | exact h3 _ _ (by omega) (by omega)) fn_3_6 rfl (by first | exact Or.inl rfl | exact Or.inr rfl | exact b2_bit _ | assumption) (up_S0) ?_
  refine gx_aload_n (i := 0) hC dX4_init_43 rfl rfl (by first | exact Or.inr ⟨_, rfl⟩ | exact Or.inl rfl | exact kv_isR | exact aref_isR) ?_
  refine gx_iconst (v := 1) hC dX4_init_44 ic_1 ?_
  refine gx_putZ hC dX4_init_45 fl_X4_35 (by first | exact h0 _ (by omega) | exact h1 _ (by omega) | exact h2 _ (by omega) | exact h3 _ _ (by omega) (by omega)) fn_3_7 rfl (by first | exact Or.inl rfl | exact Or.inr rfl | exact b2_bit _ | assumption) (up_S0) ?_
  refine gx_iconst (v := nI 0) hC dX4_init_48 ic_0n ?_
  refine gx_istore_n (i := 1) (L' := [_, _]) hC dX4_init_49 rfl (Nat.le_of_ble_eq_true rfl) rfl (fun u h9 => by first | exact Or.inl rfl | (cases h9; done) | (right; cases h9; first | rfl | exact isR_cat aref_isR | exact isR_cat kv_isR)) ?_
  have loop_50 : ∀ (k : Nat) (j : Nat), 20 - j < k → j ≤ 20 → hG z (o + 1) X (o + (3 + j)) (putS M o (iL j)) (rL R o j) 50 [some (.ref (z.1 + o)), some (.int (nI j))] [] := by
    intro k
    induction k with
    | zero => intros; omega
    | succ k ih =>
      intro j hk1 hj
      refine gx_iload_n (i := 1) hC dX4_init_50 rfl rfl ?_
      refine gx_aload_n (i := 0) hC dX4_init_51 rfl rfl (by first | exact Or.inr ⟨_, rfl⟩ | exact Or.inl rfl | exact kv_isR | exact aref_isR) ?_
      refine gx_getR hC dX4_init_52 fl_X4_11 (by first | exact h0 _ (by omega) | exact h1 _ (by omega) | exact h2 _ (by omega) | exact h3 _ _ (by omega) (by omega)) rfl (show _ = o + 1 from by simp [rL]) (by omega) ?_
      refine gx_alenN hC dX4_init_55 (by first | exact h0 _ (by omega) | exact h1 _ (by omega) | exact h2 _ (by omega) | exact h3 _ _ (by omega) (by omega)) (by decide) ?_
      refine gx_icmp_ge (tgt := 79) hC dX4_init_56 (by decide) (fun c_56 => ?_) (fun c_56 => ?_)
      · have d_56 := cle (by omega) (by omega) c_56
        obtain rfl : j = 20 := by omega
        refine gx_aload_n (i := 0) hC dX4_init_79 rfl rfl (by first | exact Or.inr ⟨_, rfl⟩ | exact Or.inl rfl | exact kv_isR | exact aref_isR) ?_
        refine gx_getR hC dX4_init_80 fl_X4_17 (by first | exact h0 _ (by omega) | exact h1 _ (by omega) | exact h2 _ (by omega) | exact h3 _ _ (by omega) (by omega)) rfl (show _ = o + 2 from by simp [rL]) (by omega) ?_
        refine gx_bipush (v := -6) hC dX4_init_83 bp_m6 ?_
        refine gx_callS0 hC dX4_init_85 (c_J7_fill_53178 _ _ (h2 _ (by omega)) (by decide) _) kY_J7_fill_53178 kS_J7_fill_53178 ml_X4_41 (by decide) rfl rfl rfl (by first | exact Nat.le_of_ble_eq_true rfl | (simp [Value.category, isR_cat kv_isR, isR_cat aref_isR]; done)) (Nat.le_refl _) (by omega) ?_
        exact gx_vret hC hQ dX4_init_88 (fillN_S) rfl
      · have d_56 := cnle (by omega) (by omega) c_56
        refine gx_aload_n (i := 0) hC dX4_init_59 rfl rfl (by first | exact Or.inr ⟨_, rfl⟩ | exact Or.inl rfl | exact kv_isR | exact aref_isR) ?_
        refine gx_getR hC dX4_init_60 fl_X4_11 (by first | exact h0 _ (by omega) | exact h1 _ (by omega) | exact h2 _ (by omega) | exact h3 _ _ (by omega) (by omega)) rfl (show _ = o + 1 from by simp [rL]) (by omega) ?_
        refine gx_iload_n (i := 1) hC dX4_init_63 rfl rfl ?_
        refine gx_new hC dX4_init_64 cL_X4_9 ((h3 (o + (3 + j) + 1) j (by omega) (by omega)).2) (by omega) (fun k hk9 => ⟨(pSj (by omega)).trans (iL_d (by omega)), (rL_o (by omega)).trans (hR _ (by omega) _)⟩) ?_
        refine gx_dup hC dX4_init_67 (by first | rfl | exact isR_cat kv_isR | exact isR_cat aref_isR) ?_
        refine gx_iload_n (i := 1) hC dX4_init_68 rfl rfl ?_
        refine gx_callI hC dX4_init_69 (c_X0_init _ _ (h3 _ _ (by omega) (by omega)) _) kY_X0_init kI_X0_init rfl ml_X4_38 (by decide) rfl rfl rfl (by first | exact Nat.le_of_ble_eq_true rfl | (simp [Value.category, isR_cat kv_isR, isR_cat aref_isR]; done)) (Nat.le_refl _) (by omega) ?_
        rw [up_S (by omega), up_S (by omega), iL_s]
        refine gx_aast hC dX4_init_72 (by first | exact h0 _ (by omega) | exact h1 _ (by omega) | exact h2 _ (by omega) | exact h3 _ _ (by omega) (by omega)) (Or.inl ⟨rfl, h3 _ _ (by omega) (by omega)⟩) (by exact vpn (by omega) (by decide)) (by omega) ?_
        rw [nI_clamp (show j < 2 ^ 31 by omega), rL_s]
        refine gx_iinc (i := 1) (L' := [_, _]) hC dX4_init_73 rfl (ii_1 _) (Nat.le_of_ble_eq_true rfl) rfl (fun u h9 => by first | exact Or.inl rfl | (cases h9; done) | (right; cases h9; first | rfl | exact isR_cat aref_isR | exact isR_cat kv_isR)) ?_
        refine gx_goto (tgt := 50) hC dX4_init_76 (by decide) ?_
        exact ih (j + 1) (by omega) (by omega)
  rw [rL_0]
  have h9 := loop_50 21 0 (by omega) (by omega)
  rw [iL_0] at h9
  exact h9
theorem d_X4_init {l : Launch} {z : hZt} {M : hMem} {R : hRef} {o : Nat} (hty : ∀ j, j < 23 → ty (o + j) = tyS j) (hM : ∀ j, j < 23 → ∀ k, M (o + j) k = dS j k) (hR : ∀ j, j < 23 → ∀ k, R (o + j) k = 0) : hCt l z m_X4_init [.ref (z.1 + o)] (o + 1) M R (o + 23) none (putS M o iS) (rS R o) := by
  have h := c_X4_init l z (M := M) hty hR
  rw [putS_d hM] at h
  exact h
