/-! the model: its checksum and its making -/
theorem lh_entryJ (h : Int64) (x : Int32) : lh ((lg_sl [.long h, .int x] ++ List.replicate (3 - (lg_sl [.long h, .int x]).length) Slot.unset).toArray) [some (.long h), none, some (.int x)] := by
  have e : lg_sl [.long h, .int x] = [.val (.long h), .second, .val (.int x)] := rfl
  have hl := lv_entry [.long h, .int x] (n := 3) (by rw [e]; exact Nat.le_refl 3)
  refine ⟨by rw [hl.1]; rfl, hl.2.1, fun i v hv => ?_⟩
  rw [e]
  match i, hv with
  | 0, hv => cases hv; rfl
  | 1, hv => cases hv
  | 2, hv => cases hv; rfl
  | i + 3, hv => cases hv
theorem hs_startJ {l : Launch} {z : hZt} {yd : hYd} {a : Int64} {b : Int32} {n : Nat} {M : hMem} {R : hRef} {n2 : Nat} {vo : Option Value} {M2 : hMem} {R2 : hRef} (hp : plainName yd.1.cls = true) (h3 : yd.2.2.1 = 3) (hn : n ≤ n2)
    (body : ∀ X : hXt, X.1.2.1 = l → X.2.1.2.1.name = yd.1.name → hOk z n X yd.2.1 yd.1.cls yd.2.2.1 yd.2.2.2.2 n2 → hRq z n X n2 vo M2 R2 yd.2.2.2.1 → hG z n X n M R 0 [some (.long a), none, some (.int b)] []) : hCt l z yd [.long a, .int b] n M R n2 vo M2 R2 := by
  refine Met.ofW (cc := yd.2.1) (maxL := yd.2.2.1) (ret := yd.2.2.2.1) hp rfl ?_
  intro p e s m args below meth c s₁ B hml hv
  obtain ⟨rfl, hfx, hp1⟩ := hv
  have hts := atoms_spec (ws := hws yd) B.pre
  have hX := body ((p, l, e, (headSpec (hws yd) (hrm yd (n2 - n) (slt n2 - slt n))).room, s, m, [Value.long a, Value.int b].toArray), (below, meth, c), MQ below (hQc z n2 vo M2 R2) [Value.long a, Value.int b].toArray s (n2 - n) (slt n2 - slt n) (hA z)) rfl
    (name_of_methodNamed B.named B.method).1
    ⟨B.exec, B.bytes, hml, findClass_of_methodNamed B.named, fun w hw => hts w (List.mem_cons_of_mem _ hw), hfx, Nat.le_refl _, Nat.le_refl _, hp1.2.1, hn, Nat.le_refl _, Nat.le_refl _⟩ ⟨rfl, B.returns, B.notSynchronized⟩
  have hl := lh_entryJ a b
  rw [lg_entry_eq]
  rw [← h3] at hl
  have h := hX s.heap [] _ hp1 va_S.rf hl
  rw [Nat.sub_self, Nat.sub_self] at h
  exact h
set_option maxHeartbeats 4000000 in
set_option maxRecDepth 20000 in
theorem c_X7_more (l : Launch) (z : hZt) {n : Nat} {M : hMem} {R : hRef} (a : Int64) (b : Int32) : hCt l z m_X7_more [.long a, .int b] n M R n (some (.long (31 * a + b.toInt64))) M R := by
  refine hs_startJ (by decide +kernel) rfl (Nat.le_refl _) (fun X hlX hN hC hQ => ?_)
  dsimp only at hC hQ
  refine gx_ldc2_w hC dX7_more_0 kl_X7_179 ?_
  refine gx_lload_n (i := 0) hC dX7_more_3 rfl rfl ?_
  refine gx_lmul hC dX7_more_4 ?_
  refine gx_iload_n (i := 2) hC dX7_more_5 rfl rfl ?_
  refine gx_i2l hC dX7_more_6 ?_
  refine gx_ladd hC dX7_more_7 ?_
  exact gx_lret hC hQ dX7_more_8 (rfl) (rfl) rfl
def mC1 (v : Nat → Int32) (q c : Nat) : Nat → Int64
  | 0 => 157
  | k + 1 => 31 * mC1 v q c k + (mTl v q c k).toInt64
def mC2 (v : Nat → Int32) (j : Nat) (h : Int64) : Nat → Int64
  | 0 => h
  | w + 1 => 31 * mC2 v j h w + (mCt v j w).toInt64
def mC3 (v : Nat → Int32) (lv c : Nat) (h : Int64) : Nat → Int64
  | 0 => h
  | j + 1 => 31 * (31 * mC2 v j (mC3 v lv c h j) 8 + (mWy v c j).toInt64) + (mLm v lv c j).toInt64
def mC4 (v : Nat → Int32) (c : Nat) (h : Int64) : Nat → Int64
  | 0 => h
  | k + 1 => 31 * mC4 v c h k + (oI (mOn v (nI k) c)).toInt64
def mCk (v : Nat → Int32) (q lv c : Nat) : Int64 := mC4 v c (mC3 v lv c (mC1 v q c 18) c) lv
def mCM (M : hMem) (v : Nat → Int32) (lv c : Nat) : Nat → hMem
  | 0 => M
  | j + 1 => mFo (mCM M v lv c j) v lv c j
theorem CR.cM {M : hMem} {v : Nat → Int32} {lv c : Nat} (h : CR M) (j : Nat) : CR (mCM M v lv c j) := by
  induction j with
  | zero => exact h
  | succ j ih => exact ih.fo
set_option maxHeartbeats 4000000 in
set_option maxRecDepth 20000 in
theorem c_X7_checksum (l : Launch) (z : hZt) {n : Nat} {M : hMem} {R : hRef} (gM : gMd n R) {v : Nat → Int32} {lv c : Nat} (hW : MW v lv c) (hR3 : CR M) (hl1 : 1 ≤ lv) {q : Nat} (hq : M 215 2 = nI q) : hCt l z m_X7_checksum [.ref (z.1 + 215)] n (putRow M 216 v) R n (some (.long (mCk v q lv c))) (putRow (mCM M v lv c c) 216 v) R := by
  refine hs_start [some (.ref (z.1 + 215)), none, none, none, none] (by decide +kernel) rfl (by intro u hu; simp at hu; subst hu <;> first | rfl | exact isR_cat kv_isR | exact isR_cat aref_isR) (Nat.le_of_ble_eq_true rfl) (Nat.le_refl _) (fun X hlX hN hC hQ => ?_)
  dsimp only at hC hQ
  have hc20 := hW.c20
  have hl16 := hW.l16
  have loop_94 : ∀ (k : Nat) (i : Nat) (w : Option Value), lv - i < k → i ≤ lv → hG z n X n (putRow (mCM M v lv c c) 216 v) R 94 [some (.ref (z.1 + 215)), some (.long (mC4 v c (mC3 v lv c (mC1 v q c 18) c) i)), none, some (.int (nI i)), w] [] := by
    intro k
    induction k with
    | zero => intros; omega
    | succ k ih =>
      intro i w hk1 hi
      refine gx_iload_n (i := 3) hC dX7_checksum_94 rfl rfl ?_
      refine gx_aload_n (i := 0) hC dX7_checksum_95 rfl rfl (by first | exact Or.inr ⟨_, rfl⟩ | exact Or.inl rfl | exact kv_isR | exact aref_isR) ?_
      refine gx_getR hC dX7_checksum_96 fl_X7_7 (by first | exact gM.at215 | exact gM.at216 | exact gM.at217 | exact gM.at218 | exact gM.at219 | exact gM.at220 | exact gM.at221 | exact gM.at222 | exact gM.at223 | exact gM.at224 | exact gM.at225) rfl (gM.r216) (by decide) ?_
      refine gx_iconst (v := nI 1) hC dX7_checksum_99 ic_1n ?_
      refine gx_iald hC dX7_checksum_100 (by first | exact gM.at215 | exact gM.at216 | exact gM.at217 | exact gM.at218 | exact gM.at219 | exact gM.at220 | exact gM.at221 | exact gM.at222 | exact gM.at223 | exact gM.at224 | exact gM.at225) (by exact vpn (by omega) (by decide)) ((pRn (by omega)).trans hW.lv) ?_
      refine gx_icmp_ge (tgt := 120) hC dX7_checksum_101 (by decide) (fun c_101 => ?_) (fun c_101 => ?_)
      · have d_101 := cle (by omega) (by omega) c_101
        refine gx_lload_n (i := 1) hC dX7_checksum_120 rfl rfl ?_
        exact gx_lret hC hQ dX7_checksum_121 (by unfold mCk; rw [show lv = i by omega]) (rfl) rfl
      · have d_101 := cnle (by omega) (by omega) c_101
        refine gx_lload_n (i := 1) hC dX7_checksum_104 rfl rfl ?_
        refine gx_aload_n (i := 0) hC dX7_checksum_105 rfl rfl (by first | exact Or.inr ⟨_, rfl⟩ | exact Or.inl rfl | exact kv_isR | exact aref_isR) ?_
        refine gx_iload_n (i := 3) hC dX7_checksum_106 rfl rfl ?_
        refine gx_callV1 hC dX7_checksum_107 (c_X7_on _ _ gM hW _) kY_X7_on kV_X7_on ml_X7_68 (by first | exact gM.at215 | exact gM.at216 | exact gM.at217 | exact gM.at218 | exact gM.at219 | exact gM.at220 | exact gM.at221 | exact gM.at222 | exact gM.at223 | exact gM.at224 | exact gM.at225) rfl (by decide) rfl rfl rfl (by first | exact Nat.le_of_ble_eq_true rfl | (simp [Value.category, isR_cat kv_isR, isR_cat aref_isR]; done)) (Nat.le_refl _) (Nat.le_refl _) ?_
        refine gx_callS1 hC dX7_checksum_110 (c_X7_more _ _ _ _) kY_X7_more kS_X7_more ml_X7_183 (by decide) rfl rfl rfl (by first | exact Nat.le_of_ble_eq_true rfl | (simp [Value.category, isR_cat kv_isR, isR_cat aref_isR]; done)) (Nat.le_refl _) (Nat.le_refl _) ?_
        refine gx_lstore_n (i := 1) (L' := [_, _, _, _, _]) hC dX7_checksum_113 rfl (Nat.le_of_ble_eq_true rfl) rfl (fun u h9 => by first | exact Or.inl rfl | (cases h9; done) | (right; cases h9; first | rfl | exact isR_cat aref_isR | exact isR_cat kv_isR)) ?_
        refine gx_iinc (i := 3) (L' := [_, _, _, _, _]) hC dX7_checksum_114 rfl (ii_1 _) (Nat.le_of_ble_eq_true rfl) rfl (fun u h9 => by first | exact Or.inl rfl | (cases h9; done) | (right; cases h9; first | rfl | exact isR_cat aref_isR | exact isR_cat kv_isR)) ?_
        refine gx_goto (tgt := 94) hC dX7_checksum_117 (by decide) ?_
        exact ih (i + 1) _ (by omega) (by omega)
  have loop_30 : ∀ (k : Nat) (i : Nat) (w : Option Value), c - i < k → i ≤ c → hG z n X n (putRow (mCM M v lv c i) 216 v) R 30 [some (.ref (z.1 + 215)), some (.long (mC3 v lv c (mC1 v q c 18) i)), none, some (.int (nI i)), w] [] := by
    intro k
    induction k with
    | zero => intros; omega
    | succ k ih30 =>
      intro i w hk1 hi
      refine gx_iload_n (i := 3) hC dX7_checksum_30 rfl rfl ?_
      refine gx_aload_n (i := 0) hC dX7_checksum_31 rfl rfl (by first | exact Or.inr ⟨_, rfl⟩ | exact Or.inl rfl | exact kv_isR | exact aref_isR) ?_
      refine gx_getR hC dX7_checksum_32 fl_X7_7 (by first | exact gM.at215 | exact gM.at216 | exact gM.at217 | exact gM.at218 | exact gM.at219 | exact gM.at220 | exact gM.at221 | exact gM.at222 | exact gM.at223 | exact gM.at224 | exact gM.at225) rfl (gM.r216) (by decide) ?_
      refine gx_iconst (v := nI 3) hC dX7_checksum_35 ic_3n ?_
      refine gx_iald hC dX7_checksum_36 (by first | exact gM.at215 | exact gM.at216 | exact gM.at217 | exact gM.at218 | exact gM.at219 | exact gM.at220 | exact gM.at221 | exact gM.at222 | exact gM.at223 | exact gM.at224 | exact gM.at225) (by exact vpn (by omega) (by decide)) ((pRn (by omega)).trans hW.ct) ?_
      refine gx_icmp_ge (tgt := 92) hC dX7_checksum_37 (by decide) (fun c_37 => ?_) (fun c_37 => ?_)
      · obtain rfl : i = c := by have := cle (by omega) (by omega) c_37; omega
        refine gx_iconst (v := nI 0) hC dX7_checksum_92 ic_0n ?_
        refine gx_istore_n (i := 3) (L' := [_, _, _, _, _]) hC dX7_checksum_93 rfl (Nat.le_of_ble_eq_true rfl) rfl (fun u h9 => by first | exact Or.inl rfl | (cases h9; done) | (right; cases h9; first | rfl | exact isR_cat aref_isR | exact isR_cat kv_isR)) ?_
        exact loop_94 (lv + 1) 0 _ (by omega) (by omega)
      · have d_37 := cnle (by omega) (by omega) c_37
        refine gx_iconst (v := nI 0) hC dX7_checksum_40 ic_0n ?_
        refine gx_istore (i := 4) (L' := [_, _, _, _, _]) hC dX7_checksum_41 (Nat.le_of_ble_eq_true rfl) rfl (fun u h9 => by first | exact Or.inl rfl | (cases h9; done) | (right; cases h9; first | rfl | exact isR_cat aref_isR | exact isR_cat kv_isR)) ?_
        have loop_43 : ∀ (k : Nat) (j : Nat), 8 - j < k → j ≤ 8 → hG z n X n (putRow (mCM M v lv c i) 216 v) R 43 [some (.ref (z.1 + 215)), some (.long (mC2 v i (mC3 v lv c (mC1 v q c 18) i) j)), none, some (.int (nI i)), some (.int (nI j))] [] := by
          intro k
          induction k with
          | zero => intros; omega
          | succ k ih =>
            intro j hk1 hj
            refine gx_iload hC dX7_checksum_43 rfl ?_
            refine gx_bipush (v := nI 8) hC dX7_checksum_45 bp_8n ?_
            refine gx_icmp_ge (tgt := 68) hC dX7_checksum_47 (by decide) (fun c_47 => ?_) (fun c_47 => ?_)
            · obtain rfl : j = 8 := by have := cle (by omega) (by omega) c_47; omega
              refine gx_lload_n (i := 1) hC dX7_checksum_68 rfl rfl ?_
              refine gx_aload_n (i := 0) hC dX7_checksum_69 rfl rfl (by first | exact Or.inr ⟨_, rfl⟩ | exact Or.inl rfl | exact kv_isR | exact aref_isR) ?_
              refine gx_iload_n (i := 3) hC dX7_checksum_70 rfl rfl ?_
              refine gx_callV1 hC dX7_checksum_71 (c_X7_whyOf _ _ gM hW (hR3.cM i) (by omega)) kY_X7_whyOf kV_X7_whyOf ml_X7_125 (by first | exact gM.at215 | exact gM.at216 | exact gM.at217 | exact gM.at218 | exact gM.at219 | exact gM.at220 | exact gM.at221 | exact gM.at222 | exact gM.at223 | exact gM.at224 | exact gM.at225) rfl (by decide) rfl rfl rfl (by first | exact Nat.le_of_ble_eq_true rfl | (simp [Value.category, isR_cat kv_isR, isR_cat aref_isR]; done)) (Nat.le_refl _) (Nat.le_refl _) ?_
              refine gx_callS1 hC dX7_checksum_74 (c_X7_more _ _ _ _) kY_X7_more kS_X7_more ml_X7_183 (by decide) rfl rfl rfl (by first | exact Nat.le_of_ble_eq_true rfl | (simp [Value.category, isR_cat kv_isR, isR_cat aref_isR]; done)) (Nat.le_refl _) (Nat.le_refl _) ?_
              refine gx_aload_n (i := 0) hC dX7_checksum_77 rfl rfl (by first | exact Or.inr ⟨_, rfl⟩ | exact Or.inl rfl | exact kv_isR | exact aref_isR) ?_
              refine gx_iload_n (i := 3) hC dX7_checksum_78 rfl rfl ?_
              refine gx_callV1 hC dX7_checksum_79 (c_X7_minutesOf _ _ gM hW (hR3.cM i) hl1 (by omega)) kY_X7_minutesOf kV_X7_minutesOf ml_X7_148 (by first | exact gM.at215 | exact gM.at216 | exact gM.at217 | exact gM.at218 | exact gM.at219 | exact gM.at220 | exact gM.at221 | exact gM.at222 | exact gM.at223 | exact gM.at224 | exact gM.at225) rfl (by decide) rfl rfl rfl (by first | exact Nat.le_of_ble_eq_true rfl | (simp [Value.category, isR_cat kv_isR, isR_cat aref_isR]; done)) (Nat.le_refl _) (Nat.le_refl _) ?_
              refine gx_callS1 hC dX7_checksum_82 (c_X7_more _ _ _ _) kY_X7_more kS_X7_more ml_X7_183 (by decide) rfl rfl rfl (by first | exact Nat.le_of_ble_eq_true rfl | (simp [Value.category, isR_cat kv_isR, isR_cat aref_isR]; done)) (Nat.le_refl _) (Nat.le_refl _) ?_
              refine gx_lstore_n (i := 1) (L' := [_, _, _, _, _]) hC dX7_checksum_85 rfl (Nat.le_of_ble_eq_true rfl) rfl (fun u h9 => by first | exact Or.inl rfl | (cases h9; done) | (right; cases h9; first | rfl | exact isR_cat aref_isR | exact isR_cat kv_isR)) ?_
              refine gx_iinc (i := 3) (L' := [_, _, _, _, _]) hC dX7_checksum_86 rfl (ii_1 _) (Nat.le_of_ble_eq_true rfl) rfl (fun u h9 => by first | exact Or.inl rfl | (cases h9; done) | (right; cases h9; first | rfl | exact isR_cat aref_isR | exact isR_cat kv_isR)) ?_
              refine gx_goto (tgt := 30) hC dX7_checksum_89 (by decide) ?_
              exact ih30 (i + 1) _ (by omega) (by omega)
            · have d_47 := cnle (by omega) (by omega) c_47
              refine gx_lload_n (i := 1) hC dX7_checksum_50 rfl rfl ?_
              refine gx_aload_n (i := 0) hC dX7_checksum_51 rfl rfl (by first | exact Or.inr ⟨_, rfl⟩ | exact Or.inl rfl | exact kv_isR | exact aref_isR) ?_
              refine gx_iload_n (i := 3) hC dX7_checksum_52 rfl rfl ?_
              refine gx_iload hC dX7_checksum_53 rfl ?_
              refine gx_callV1 hC dX7_checksum_55 (c_X7_craftTells _ _ gM hW (hR3.cM i) (by omega) (by omega)) kY_X7_craftTells kV_X7_craftTells ml_X7_116 (by first | exact gM.at215 | exact gM.at216 | exact gM.at217 | exact gM.at218 | exact gM.at219 | exact gM.at220 | exact gM.at221 | exact gM.at222 | exact gM.at223 | exact gM.at224 | exact gM.at225) rfl (by decide) rfl rfl rfl (by first | exact Nat.le_of_ble_eq_true rfl | (simp [Value.category, isR_cat kv_isR, isR_cat aref_isR]; done)) (Nat.le_refl _) (Nat.le_refl _) ?_
              refine gx_callS1 hC dX7_checksum_58 (c_X7_more _ _ _ _) kY_X7_more kS_X7_more ml_X7_183 (by decide) rfl rfl rfl (by first | exact Nat.le_of_ble_eq_true rfl | (simp [Value.category, isR_cat kv_isR, isR_cat aref_isR]; done)) (Nat.le_refl _) (Nat.le_refl _) ?_
              refine gx_lstore_n (i := 1) (L' := [_, _, _, _, _]) hC dX7_checksum_61 rfl (Nat.le_of_ble_eq_true rfl) rfl (fun u h9 => by first | exact Or.inl rfl | (cases h9; done) | (right; cases h9; first | rfl | exact isR_cat aref_isR | exact isR_cat kv_isR)) ?_
              refine gx_iinc (i := 4) (L' := [_, _, _, _, _]) hC dX7_checksum_62 rfl (ii_1 _) (Nat.le_of_ble_eq_true rfl) rfl (fun u h9 => by first | exact Or.inl rfl | (cases h9; done) | (right; cases h9; first | rfl | exact isR_cat aref_isR | exact isR_cat kv_isR)) ?_
              refine gx_goto (tgt := 43) hC dX7_checksum_65 (by decide) ?_
              exact ih (j + 1) (by omega) (by omega)
        exact loop_43 9 0 (by omega) (by omega)
  refine gx_ldc2_w hC dX7_checksum_0 kl_X7_181 ?_
  refine gx_lstore_n (i := 1) (L' := [_, _, _, _, _]) hC dX7_checksum_3 rfl (Nat.le_of_ble_eq_true rfl) rfl (fun u h9 => by first | exact Or.inl rfl | (cases h9; done) | (right; cases h9; first | rfl | exact isR_cat aref_isR | exact isR_cat kv_isR)) ?_
  refine gx_iconst (v := nI 0) hC dX7_checksum_4 ic_0n ?_
  refine gx_istore_n (i := 3) (L' := [_, _, _, _, _]) hC dX7_checksum_5 rfl (Nat.le_of_ble_eq_true rfl) rfl (fun u h9 => by first | exact Or.inl rfl | (cases h9; done) | (right; cases h9; first | rfl | exact isR_cat aref_isR | exact isR_cat kv_isR)) ?_
  have loop_6 : ∀ (k : Nat) (i : Nat) (w : Option Value), 18 - i < k → i ≤ 18 → hG z n X n (putRow M 216 v) R 6 [some (.ref (z.1 + 215)), some (.long (mC1 v q c i)), none, some (.int (nI i)), w] [] := by
    intro k
    induction k with
    | zero => intros; omega
    | succ k ih =>
      intro i w hk1 hi
      refine gx_iload_n (i := 3) hC dX7_checksum_6 rfl rfl ?_
      refine gx_bipush (v := nI 18) hC dX7_checksum_7 bp_18n ?_
      refine gx_icmp_ge (tgt := 28) hC dX7_checksum_9 (by decide) (fun c_9 => ?_) (fun c_9 => ?_)
      · obtain rfl : i = 18 := by have := cle (by omega) (by omega) c_9; omega
        refine gx_iconst (v := nI 0) hC dX7_checksum_28 ic_0n ?_
        refine gx_istore_n (i := 3) (L' := [_, _, _, _, _]) hC dX7_checksum_29 rfl (Nat.le_of_ble_eq_true rfl) rfl (fun u h9 => by first | exact Or.inl rfl | (cases h9; done) | (right; cases h9; first | rfl | exact isR_cat aref_isR | exact isR_cat kv_isR)) ?_
        exact loop_30 (c + 1) 0 _ (by omega) (by omega)
      · have d_9 := cnle (by omega) (by omega) c_9
        refine gx_lload_n (i := 1) hC dX7_checksum_12 rfl rfl ?_
        refine gx_aload_n (i := 0) hC dX7_checksum_13 rfl rfl (by first | exact Or.inr ⟨_, rfl⟩ | exact Or.inl rfl | exact kv_isR | exact aref_isR) ?_
        refine gx_iload_n (i := 3) hC dX7_checksum_14 rfl rfl ?_
        refine gx_callV1 hC dX7_checksum_15 (c_X7_tells _ _ gM hW hq (by omega)) kY_X7_tells kV_X7_tells ml_X7_122 (by first | exact gM.at215 | exact gM.at216 | exact gM.at217 | exact gM.at218 | exact gM.at219 | exact gM.at220 | exact gM.at221 | exact gM.at222 | exact gM.at223 | exact gM.at224 | exact gM.at225) rfl (by decide) rfl rfl rfl (by first | exact Nat.le_of_ble_eq_true rfl | (simp [Value.category, isR_cat kv_isR, isR_cat aref_isR]; done)) (Nat.le_refl _) (Nat.le_refl _) ?_
        refine gx_callS1 hC dX7_checksum_18 (c_X7_more _ _ _ _) kY_X7_more kS_X7_more ml_X7_183 (by decide) rfl rfl rfl (by first | exact Nat.le_of_ble_eq_true rfl | (simp [Value.category, isR_cat kv_isR, isR_cat aref_isR]; done)) (Nat.le_refl _) (Nat.le_refl _) ?_
        refine gx_lstore_n (i := 1) (L' := [_, _, _, _, _]) hC dX7_checksum_21 rfl (Nat.le_of_ble_eq_true rfl) rfl (fun u h9 => by first | exact Or.inl rfl | (cases h9; done) | (right; cases h9; first | rfl | exact isR_cat aref_isR | exact isR_cat kv_isR)) ?_
        refine gx_iinc (i := 3) (L' := [_, _, _, _, _]) hC dX7_checksum_22 rfl (ii_1 _) (Nat.le_of_ble_eq_true rfl) rfl (fun u h9 => by first | exact Or.inl rfl | (cases h9; done) | (right; cases h9; first | rfl | exact isR_cat aref_isR | exact isR_cat kv_isR)) ?_
        refine gx_goto (tgt := 6) hC dX7_checksum_25 (by decide) ?_
        exact ih (i + 1) _ (by omega) (by omega)
  exact loop_6 19 0 _ (by omega) (by omega)
def mM1 (M : hMem) : hMem := (up2 (up2 (up2 (up2 (up2 (up2 (up2 (up2 (up2 (up2 (up2 (up2 (up2 (up2 M 223 0 4) 223 1 9) 223 2 18) 224 0 40) 224 1 100) 224 2 220) 225 0 2) 225 1 3) 225 2 4) 216 1 10) 216 2 4) 216 5 1) 216 6 1) 216 7 16)
def mR1 (R : hRef) : hRef := (up2 (up2 (up2 (up2 (up2 (up2 (up2 (up2 (up2 (up2 R 215 0 216) 215 1 217) 215 3 218) 215 4 219) 215 5 220) 215 6 221) 215 9 222) 215 10 223) 215 11 224) 215 12 225)
set_option maxHeartbeats 4000000 in
set_option maxRecDepth 20000 in
theorem c_X7_init (l : Launch) (z : hZt) {M : hMem} {R : hRef} (h1 : Frs 216 M R) : hCt l z m_X7_init [.ref (z.1 + 215)] 216 M R 226 none (mM1 M) (mR1 R) := by
  refine hs_start [some (.ref (z.1 + 215))] (by decide +kernel) rfl (by intro u hu; simp at hu; subst hu <;> first | rfl | exact isR_cat kv_isR | exact isR_cat aref_isR) (Nat.le_of_ble_eq_true rfl) (by omega) (fun X hlX hN hC hQ => ?_)
  dsimp only at hC hQ
  refine gx_aload_n (i := 0) hC dX7_init_0 rfl rfl (by first | exact Or.inr ⟨_, rfl⟩ | exact Or.inl rfl | exact kv_isR | exact aref_isR) ?_
  refine gx_objinit hC dX7_init_1 ml_X7_1 oi_1 oi_2 (by decide) rfl ?_
  refine gx_aload_n (i := 0) hC dX7_init_4 rfl rfl (by first | exact Or.inr ⟨_, rfl⟩ | exact Or.inl rfl | exact kv_isR | exact aref_isR) ?_
  refine gx_sipush (v := nI 154) hC dX7_init_5 sp_154n ?_
  refine gx_newarray hC dX7_init_8 (Or.inl ⟨rfl, rfl⟩) (by decide) ac_int (by omega) (fun k _ => (h1 216 (by decide) k).1) (rfl) (by decide) ?_
  refine gx_putR hC dX7_init_10 fl_X7_7 (by exact ⟨by omega, rfl⟩) ff_6_0 hN ⟨_, _, rfl⟩ rfl (by decide) (rfl) ?_
  refine gx_aload_n (i := 0) hC dX7_init_13 rfl rfl (by first | exact Or.inr ⟨_, rfl⟩ | exact Or.inl rfl | exact kv_isR | exact aref_isR) ?_
  refine gx_sipush (v := nI 770) hC dX7_init_14 sp_770n ?_
  refine gx_newarray hC dX7_init_17 (Or.inl ⟨rfl, rfl⟩) (by decide) ac_int (by omega) (fun k _ => (h1 217 (by decide) k).1) (rfl) (by decide) ?_
  refine gx_putR hC dX7_init_19 fl_X7_13 (by exact ⟨by omega, rfl⟩) ff_6_1 hN ⟨_, _, rfl⟩ rfl (by decide) (rfl) ?_
  refine gx_aload_n (i := 0) hC dX7_init_22 rfl rfl (by first | exact Or.inr ⟨_, rfl⟩ | exact Or.inl rfl | exact kv_isR | exact aref_isR) ?_
  refine gx_sipush (v := nI 154) hC dX7_init_23 sp_154n ?_
  refine gx_newarray hC dX7_init_26 (Or.inl ⟨rfl, rfl⟩) (by decide) ac_int (by omega) (fun k _ => (h1 218 (by decide) k).1) (rfl) (by decide) ?_
  refine gx_putR hC dX7_init_28 fl_X7_16 (by exact ⟨by omega, rfl⟩) ff_6_3 hN ⟨_, _, rfl⟩ rfl (by decide) (rfl) ?_
  refine gx_aload_n (i := 0) hC dX7_init_31 rfl rfl (by first | exact Or.inr ⟨_, rfl⟩ | exact Or.inl rfl | exact kv_isR | exact aref_isR) ?_
  refine gx_sipush (v := nI 308) hC dX7_init_32 sp_308n ?_
  refine gx_newarray hC dX7_init_35 (Or.inl ⟨rfl, rfl⟩) (by decide) ac_int (by omega) (fun k _ => (h1 219 (by decide) k).1) (rfl) (by decide) ?_
  refine gx_putR hC dX7_init_37 fl_X7_19 (by exact ⟨by omega, rfl⟩) ff_6_4 hN ⟨_, _, rfl⟩ rfl (by decide) (rfl) ?_
  refine gx_aload_n (i := 0) hC dX7_init_40 rfl rfl (by first | exact Or.inr ⟨_, rfl⟩ | exact Or.inl rfl | exact kv_isR | exact aref_isR) ?_
  refine gx_iconst (v := nI 2) hC dX7_init_41 ic_2n ?_
  refine gx_newarray hC dX7_init_42 (Or.inr (Or.inl ⟨rfl, rfl⟩)) (by decide) ac_boolean (by omega) (fun k _ => (h1 220 (by decide) k).1) (rfl) (by decide) ?_
  refine gx_putR hC dX7_init_44 fl_X7_22 (by exact ⟨by omega, rfl⟩) ff_6_5 hN ⟨_, _, rfl⟩ rfl (by decide) (rfl) ?_
  refine gx_aload_n (i := 0) hC dX7_init_47 rfl rfl (by first | exact Or.inr ⟨_, rfl⟩ | exact Or.inl rfl | exact kv_isR | exact aref_isR) ?_
  refine gx_bipush (v := nI 80) hC dX7_init_48 bp_80n ?_
  refine gx_newarray hC dX7_init_50 (Or.inl ⟨rfl, rfl⟩) (by decide) ac_int (by omega) (fun k _ => (h1 221 (by decide) k).1) (rfl) (by decide) ?_
  refine gx_putR hC dX7_init_52 fl_X7_26 (by exact ⟨by omega, rfl⟩) ff_6_6 hN ⟨_, _, rfl⟩ rfl (by decide) (rfl) ?_
  refine gx_aload_n (i := 0) hC dX7_init_55 rfl rfl (by first | exact Or.inr ⟨_, rfl⟩ | exact Or.inl rfl | exact kv_isR | exact aref_isR) ?_
  refine gx_iconst (v := nI 4) hC dX7_init_56 ic_4n ?_
  refine gx_newarray hC dX7_init_57 (Or.inl ⟨rfl, rfl⟩) (by decide) ac_int (by omega) (fun k _ => (h1 222 (by decide) k).1) (rfl) (by decide) ?_
  refine gx_putR hC dX7_init_59 fl_X7_29 (by exact ⟨by omega, rfl⟩) ff_6_9 hN ⟨_, _, rfl⟩ rfl (by decide) (rfl) ?_
  refine gx_aload_n (i := 0) hC dX7_init_62 rfl rfl (by first | exact Or.inr ⟨_, rfl⟩ | exact Or.inl rfl | exact kv_isR | exact aref_isR) ?_
  refine gx_iconst (v := nI 3) hC dX7_init_63 ic_3n ?_
  refine gx_newarray hC dX7_init_64 (Or.inl ⟨rfl, rfl⟩) (by decide) ac_int (by omega) (fun k _ => (h1 223 (by decide) k).1) (rfl) (by decide) ?_
  refine gx_dup hC dX7_init_66 (by first | rfl | exact isR_cat kv_isR | exact isR_cat aref_isR) ?_
  refine gx_iconst (v := nI 0) hC dX7_init_67 ic_0n ?_
  refine gx_iconst (v := 4) hC dX7_init_68 ic_4 ?_
  refine gx_iastM hC dX7_init_69 (by exact ⟨by omega, rfl⟩) (by exact vpn (by omega) (by decide)) (by rw [nI_clamp (by decide)]) ?_
  refine gx_dup hC dX7_init_70 (by first | rfl | exact isR_cat kv_isR | exact isR_cat aref_isR) ?_
  refine gx_iconst (v := nI 1) hC dX7_init_71 ic_1n ?_
  refine gx_bipush (v := 9) hC dX7_init_72 bp_9 ?_
  refine gx_iastM hC dX7_init_74 (by exact ⟨by omega, rfl⟩) (by exact vpn (by omega) (by decide)) (by rw [nI_clamp (by decide)]) ?_
  refine gx_dup hC dX7_init_75 (by first | rfl | exact isR_cat kv_isR | exact isR_cat aref_isR) ?_
  refine gx_iconst (v := nI 2) hC dX7_init_76 ic_2n ?_
  refine gx_bipush (v := 18) hC dX7_init_77 bp_18 ?_
  refine gx_iastM hC dX7_init_79 (by exact ⟨by omega, rfl⟩) (by exact vpn (by omega) (by decide)) (by rw [nI_clamp (by decide)]) ?_
  refine gx_putR hC dX7_init_80 fl_X7_32 (by exact ⟨by omega, rfl⟩) ff_6_10 hN ⟨_, _, rfl⟩ rfl (by decide) (rfl) ?_
  refine gx_aload_n (i := 0) hC dX7_init_83 rfl rfl (by first | exact Or.inr ⟨_, rfl⟩ | exact Or.inl rfl | exact kv_isR | exact aref_isR) ?_
  refine gx_iconst (v := nI 3) hC dX7_init_84 ic_3n ?_
  refine gx_newarray hC dX7_init_85 (Or.inl ⟨rfl, rfl⟩) (by decide) ac_int (by omega) (fun k _ => (h1 224 (by decide) k).1) (rfl) (by decide) ?_
  refine gx_dup hC dX7_init_87 (by first | rfl | exact isR_cat kv_isR | exact isR_cat aref_isR) ?_
  refine gx_iconst (v := nI 0) hC dX7_init_88 ic_0n ?_
  refine gx_bipush (v := 40) hC dX7_init_89 bp_40 ?_
  refine gx_iastM hC dX7_init_91 (by exact ⟨by omega, rfl⟩) (by exact vpn (by omega) (by decide)) (by rw [nI_clamp (by decide)]) ?_
  refine gx_dup hC dX7_init_92 (by first | rfl | exact isR_cat kv_isR | exact isR_cat aref_isR) ?_
  refine gx_iconst (v := nI 1) hC dX7_init_93 ic_1n ?_
  refine gx_bipush (v := 100) hC dX7_init_94 bp_100 ?_
  refine gx_iastM hC dX7_init_96 (by exact ⟨by omega, rfl⟩) (by exact vpn (by omega) (by decide)) (by rw [nI_clamp (by decide)]) ?_
  refine gx_dup hC dX7_init_97 (by first | rfl | exact isR_cat kv_isR | exact isR_cat aref_isR) ?_
  refine gx_iconst (v := nI 2) hC dX7_init_98 ic_2n ?_
  refine gx_sipush (v := 220) hC dX7_init_99 sp_220 ?_
  refine gx_iastM hC dX7_init_102 (by exact ⟨by omega, rfl⟩) (by exact vpn (by omega) (by decide)) (by rw [nI_clamp (by decide)]) ?_
  refine gx_putR hC dX7_init_103 fl_X7_35 (by exact ⟨by omega, rfl⟩) ff_6_11 hN ⟨_, _, rfl⟩ rfl (by decide) (rfl) ?_
  refine gx_aload_n (i := 0) hC dX7_init_106 rfl rfl (by first | exact Or.inr ⟨_, rfl⟩ | exact Or.inl rfl | exact kv_isR | exact aref_isR) ?_
  refine gx_iconst (v := nI 3) hC dX7_init_107 ic_3n ?_
  refine gx_newarray hC dX7_init_108 (Or.inl ⟨rfl, rfl⟩) (by decide) ac_int (by omega) (fun k _ => (h1 225 (by decide) k).1) (rfl) (by decide) ?_
  refine gx_dup hC dX7_init_110 (by first | rfl | exact isR_cat kv_isR | exact isR_cat aref_isR) ?_
  refine gx_iconst (v := nI 0) hC dX7_init_111 ic_0n ?_
  refine gx_iconst (v := 2) hC dX7_init_112 ic_2 ?_
  refine gx_iastM hC dX7_init_113 (by exact ⟨by omega, rfl⟩) (by exact vpn (by omega) (by decide)) (by rw [nI_clamp (by decide)]) ?_
  refine gx_dup hC dX7_init_114 (by first | rfl | exact isR_cat kv_isR | exact isR_cat aref_isR) ?_
  refine gx_iconst (v := nI 1) hC dX7_init_115 ic_1n ?_
  refine gx_iconst (v := 3) hC dX7_init_116 ic_3 ?_
  refine gx_iastM hC dX7_init_117 (by exact ⟨by omega, rfl⟩) (by exact vpn (by omega) (by decide)) (by rw [nI_clamp (by decide)]) ?_
  refine gx_dup hC dX7_init_118 (by first | rfl | exact isR_cat kv_isR | exact isR_cat aref_isR) ?_
  refine gx_iconst (v := nI 2) hC dX7_init_119 ic_2n ?_
  refine gx_iconst (v := 4) hC dX7_init_120 ic_4 ?_
  refine gx_iastM hC dX7_init_121 (by exact ⟨by omega, rfl⟩) (by exact vpn (by omega) (by decide)) (by rw [nI_clamp (by decide)]) ?_
  refine gx_putR hC dX7_init_122 fl_X7_38 (by exact ⟨by omega, rfl⟩) ff_6_12 hN ⟨_, _, rfl⟩ rfl (by decide) (rfl) ?_
  refine gx_aload_n (i := 0) hC dX7_init_125 rfl rfl (by first | exact Or.inr ⟨_, rfl⟩ | exact Or.inl rfl | exact kv_isR | exact aref_isR) ?_
  refine gx_getR hC dX7_init_126 fl_X7_7 (by exact ⟨by omega, rfl⟩) rfl (show _ = 216 from rfl) (by decide) ?_
  refine gx_iconst (v := nI 1) hC dX7_init_129 ic_1n ?_
  refine gx_bipush (v := 10) hC dX7_init_130 bp_10 ?_
  refine gx_iastM hC dX7_init_132 (by exact ⟨by omega, rfl⟩) (by exact vpn (by omega) (by decide)) (by rw [nI_clamp (by decide)]) ?_
  refine gx_aload_n (i := 0) hC dX7_init_133 rfl rfl (by first | exact Or.inr ⟨_, rfl⟩ | exact Or.inl rfl | exact kv_isR | exact aref_isR) ?_
  refine gx_getR hC dX7_init_134 fl_X7_7 (by exact ⟨by omega, rfl⟩) rfl (show _ = 216 from rfl) (by decide) ?_
  refine gx_iconst (v := nI 2) hC dX7_init_137 ic_2n ?_
  refine gx_iconst (v := 4) hC dX7_init_138 ic_4 ?_
  refine gx_iastM hC dX7_init_139 (by exact ⟨by omega, rfl⟩) (by exact vpn (by omega) (by decide)) (by rw [nI_clamp (by decide)]) ?_
  refine gx_aload_n (i := 0) hC dX7_init_140 rfl rfl (by first | exact Or.inr ⟨_, rfl⟩ | exact Or.inl rfl | exact kv_isR | exact aref_isR) ?_
  refine gx_getR hC dX7_init_141 fl_X7_7 (by exact ⟨by omega, rfl⟩) rfl (show _ = 216 from rfl) (by decide) ?_
  refine gx_iconst (v := nI 5) hC dX7_init_144 ic_5n ?_
  refine gx_iconst (v := 1) hC dX7_init_145 ic_1 ?_
  refine gx_iastM hC dX7_init_146 (by exact ⟨by omega, rfl⟩) (by exact vpn (by omega) (by decide)) (by rw [nI_clamp (by decide)]) ?_
  refine gx_aload_n (i := 0) hC dX7_init_147 rfl rfl (by first | exact Or.inr ⟨_, rfl⟩ | exact Or.inl rfl | exact kv_isR | exact aref_isR) ?_
  refine gx_getR hC dX7_init_148 fl_X7_7 (by exact ⟨by omega, rfl⟩) rfl (show _ = 216 from rfl) (by decide) ?_
  refine gx_bipush (v := nI 6) hC dX7_init_151 bp_6n ?_
  refine gx_iconst (v := 1) hC dX7_init_153 ic_1 ?_
  refine gx_iastM hC dX7_init_154 (by exact ⟨by omega, rfl⟩) (by exact vpn (by omega) (by decide)) (by rw [nI_clamp (by decide)]) ?_
  refine gx_aload_n (i := 0) hC dX7_init_155 rfl rfl (by first | exact Or.inr ⟨_, rfl⟩ | exact Or.inl rfl | exact kv_isR | exact aref_isR) ?_
  refine gx_getR hC dX7_init_156 fl_X7_7 (by exact ⟨by omega, rfl⟩) rfl (show _ = 216 from rfl) (by decide) ?_
  refine gx_bipush (v := nI 7) hC dX7_init_159 bp_7n ?_
  refine gx_bipush (v := 16) hC dX7_init_161 bp_16 ?_
  refine gx_iastM hC dX7_init_163 (by exact ⟨by omega, rfl⟩) (by exact vpn (by omega) (by decide)) (by rw [nI_clamp (by decide)]) ?_
  exact gx_vret hC hQ dX7_init_164 (rfl) rfl
