/-! the model: a minute -/
theorem mLd_lt {v : Nat → Int32} {c j : Nat} (h : mLd v c = some j) : j < c := by
  unfold mLd at h
  cases hb : mLb v c with
  | some i => rw [hb] at h; cases h; exact mLb_lt hb
  | none =>
    rw [hb] at h
    simp only at h
    cases hl : mOn v 0 c with
    | none => rw [hl] at h; cases h
    | some i =>
      rw [hl] at h
      simp only at h
      split at h
      · cases h; exact (mOn_lt hl).1
      · cases h
def mW1 (v : Nat → Int32) : Nat → Int32 := upd v 4 (v 4 - (if 0 < v 4 then 1 else 0))
def mPq (v : Nat → Int32) (c : Nat) : Option Nat := if v 5 = 1 ∧ v 4 = 0 then mLd v c else none
def mV3 (v : Nat → Int32) (q : Option Nat) : Nat → Int32 := match q with
  | some j => upd (mLeave v j 1) 4 (kWake (mLeave v j 1 (14 + 7 * j)))
  | none => v
def mK1 (v : Nat → Int32) (c i : Nat) : Nat → Int32 := match mOn v (nI (i + 1)) c with
  | some b => if mOv v b = true ∧ mOn v (nI i) c = none ∧ (v 6 = 1 ∨ v (14 + 7 * b + 5) = 1) then
      (let g := upd (upd v (14 + 7 * b + 3) (nI i)) (14 + 7 * b + 5) 0
       upd g 8 (g 8 + 1)) else v
  | none => v
def mKs (v : Nat → Int32) (c : Nat) : Nat → Nat → Int32
  | 0 => v
  | i + 1 => mK1 (mKs v c i) c i
theorem MW.k1 {v : Nat → Int32} {lv c : Nat} (h : MW v lv c) (i : Nat) : MW (mK1 v c i) lv c := by
  unfold mK1
  split
  · split
    · exact ((h.up (by omega) (by omega)).up (by omega) (by omega)).up (by omega) (by omega)
    · exact h
  · exact h
theorem MW.ks {v : Nat → Int32} {lv c : Nat} (h : MW v lv c) (i : Nat) : MW (mKs v c i) lv c := by
  induction i with
  | zero => exact h
  | succ i ih => exact ih.k1 i
theorem MW.w1 {v : Nat → Int32} {lv c : Nat} (h : MW v lv c) : MW (mW1 v) lv c := h.up (by omega) (by omega)
theorem MW.v3 {v : Nat → Int32} {lv c : Nat} (h : MW v lv c) (q : Option Nat) : MW (mV3 v q) lv c := by
  unfold mV3
  split
  · exact (h.leave _ _).up (by omega) (by omega)
  · exact h
def mB2 (v : Nat → Int32) (c : Nat) : Nat → Int32 := mW1 (mBu v c)
def mPa (v : Nat → Int32) (c : Nat) : Option Nat := mPq (mB2 v c) c
def mPs (v : Nat → Int32) (lv c : Nat) : Nat → Int32 :=
  let g := mKs (mV3 (mB2 v c) (mPa v c)) c (lv - 1)
  upd g 0 (g 0 + 1)
theorem MW.b2 {v : Nat → Int32} {lv c : Nat} (h : MW v lv c) : MW (mB2 v c) lv c := h.bu.w1
theorem MW.ps {v : Nat → Int32} {lv c : Nat} (h : MW v lv c) : MW (mPs v lv c) lv c := ((h.b2.v3 _).ks _).up (by omega) (by omega)
theorem mPa_lt {v : Nat → Int32} {c j : Nat} (h : mPa v c = some j) : j < c := by
  unfold mPa mPq at h
  split at h
  · exact mLd_lt h
  · cases h
set_option maxHeartbeats 4000000 in
set_option maxRecDepth 20000 in
theorem c_X7_passes (l : Launch) (z : hZt) {n : Nat} {M : hMem} {R : hRef} (gM : gMd n R) {v : Nat → Int32} {lv c : Nat} (hW : MW v lv c) (hR3 : CR M) (hl1 : 1 ≤ lv) : hCt l z m_X7_passes [.ref (z.1 + 215)] n (putRow M 216 v) R n (some (.int (oI (mPa v c)))) (putRow M 216 (mPs v lv c)) R := by
  refine hs_start [some (.ref (z.1 + 215)), none, none, none] (by decide +kernel) rfl (by intro u hu; simp at hu; subst hu <;> first | rfl | exact isR_cat kv_isR | exact isR_cat aref_isR) (Nat.le_of_ble_eq_true rfl) (Nat.le_refl _) (fun X hlX hN hC hQ => ?_)
  dsimp only at hC hQ
  have hc20 := hW.c20
  have hl16 := hW.l16
  have tail : ∀ (w : Nat → Int32) (qo : Option Nat) (u3 : Option Value), MW w lv c → qo = mPa v c → w = mV3 (mB2 v c) (mPa v c) → hG z n X n (putRow M 216 w) R 86 [some (.ref (z.1 + 215)), some (.int (oI qo)), none, u3] [] := by
    intro w qo u3 hw hqo hwe
    refine gx_iconst (v := nI 1) hC dX7_passes_86 ic_1n ?_
    refine gx_istore_n (i := 2) (L' := [_, _, _, _]) hC dX7_passes_87 rfl (Nat.le_of_ble_eq_true rfl) rfl (fun u h9 => by first | exact Or.inl rfl | (cases h9; done) | (right; cases h9; first | rfl | exact isR_cat aref_isR | exact isR_cat kv_isR)) ?_
    have loop_88 : ∀ (k : Nat) (i : Nat) (u3 : Option Value), lv - i < k → i + 1 ≤ lv → hG z n X n (putRow M 216 (mKs w c i)) R 88 [some (.ref (z.1 + 215)), some (.int (oI qo)), some (.int (nI (i + 1))), u3] [] := by
      intro k
      induction k with
      | zero => intros; omega
      | succ k ih =>
        intro i u3 hk1 hi
        refine gx_iload_n (i := 2) hC dX7_passes_88 rfl rfl ?_
        refine gx_aload_n (i := 0) hC dX7_passes_89 rfl rfl (by first | exact Or.inr ⟨_, rfl⟩ | exact Or.inl rfl | exact kv_isR | exact aref_isR) ?_
        refine gx_getR hC dX7_passes_90 fl_X7_7 (by first | exact gM.at215 | exact gM.at216 | exact gM.at217 | exact gM.at218 | exact gM.at219 | exact gM.at220 | exact gM.at221 | exact gM.at222 | exact gM.at223 | exact gM.at224 | exact gM.at225) rfl (gM.r216) (by decide) ?_
        refine gx_iconst (v := nI 1) hC dX7_passes_93 ic_1n ?_
        refine gx_iald hC dX7_passes_94 (by first | exact gM.at215 | exact gM.at216 | exact gM.at217 | exact gM.at218 | exact gM.at219 | exact gM.at220 | exact gM.at221 | exact gM.at222 | exact gM.at223 | exact gM.at224 | exact gM.at225) (by exact vpn (by omega) (by decide)) ((pRn (by omega)).trans (hw.ks i).lv) ?_
        refine gx_icmp_ge (tgt := 197) hC dX7_passes_95 (by decide) (fun c_95 => ?_) (fun c_95 => ?_)
        · have d_95 := cle (by omega) (by omega) c_95
          refine gx_aload_n (i := 0) hC dX7_passes_197 rfl rfl (by first | exact Or.inr ⟨_, rfl⟩ | exact Or.inl rfl | exact kv_isR | exact aref_isR) ?_
          refine gx_getR hC dX7_passes_198 fl_X7_7 (by first | exact gM.at215 | exact gM.at216 | exact gM.at217 | exact gM.at218 | exact gM.at219 | exact gM.at220 | exact gM.at221 | exact gM.at222 | exact gM.at223 | exact gM.at224 | exact gM.at225) rfl (gM.r216) (by decide) ?_
          refine gx_iconst (v := nI 0) hC dX7_passes_201 ic_0n ?_
          refine gx_dup2 hC dX7_passes_202 rfl rfl ?_
          refine gx_iald hC dX7_passes_203 (by first | exact gM.at215 | exact gM.at216 | exact gM.at217 | exact gM.at218 | exact gM.at219 | exact gM.at220 | exact gM.at221 | exact gM.at222 | exact gM.at223 | exact gM.at224 | exact gM.at225) (by exact vpn (by omega) (by decide)) (pRn (by omega)) ?_
          refine gx_iconst (v := 1) hC dX7_passes_204 ic_1 ?_
          refine gx_iadd hC dX7_passes_205 ?_
          refine gx_iastM hC dX7_passes_206 (by first | exact gM.at215 | exact gM.at216 | exact gM.at217 | exact gM.at218 | exact gM.at219 | exact gM.at220 | exact gM.at221 | exact gM.at222 | exact gM.at223 | exact gM.at224 | exact gM.at225) (by exact vpn (by omega) (by decide)) (up_Rn (by omega)) ?_
          refine gx_iload_n (i := 1) hC dX7_passes_207 rfl rfl ?_
          exact gx_iret hC hQ dX7_passes_208 ((by rw [hqo])) ((by have e : i = lv - 1 := (by omega); rw [e]; unfold mPs; rw [← hwe])) rfl
        · have d_95 := cnle (by omega) (by omega) c_95
          refine gx_aload_n (i := 0) hC dX7_passes_98 rfl rfl (by first | exact Or.inr ⟨_, rfl⟩ | exact Or.inl rfl | exact kv_isR | exact aref_isR) ?_
          refine gx_iload_n (i := 2) hC dX7_passes_99 rfl rfl ?_
          refine gx_callV1 hC dX7_passes_100 (c_X7_on _ _ gM (hw.ks i) _) kY_X7_on kV_X7_on ml_X7_68 (by first | exact gM.at215 | exact gM.at216 | exact gM.at217 | exact gM.at218 | exact gM.at219 | exact gM.at220 | exact gM.at221 | exact gM.at222 | exact gM.at223 | exact gM.at224 | exact gM.at225) rfl (by decide) rfl rfl rfl (by first | exact Nat.le_of_ble_eq_true rfl | (simp [Value.category, isR_cat kv_isR, isR_cat aref_isR]; done)) (Nat.le_refl _) (Nat.le_refl _) ?_
          refine gx_istore_n (i := 3) (L' := [_, _, _, _]) hC dX7_passes_103 rfl (Nat.le_of_ble_eq_true rfl) rfl (fun u h9 => by first | exact Or.inl rfl | (cases h9; done) | (right; cases h9; first | rfl | exact isR_cat aref_isR | exact isR_cat kv_isR)) ?_
          refine gx_iload_n (i := 3) hC dX7_passes_104 rfl rfl ?_
          refine gx_if_lt (tgt := 191) hC dX7_passes_105 (by decide) (fun c_105 => ?_) (fun c_105 => ?_)
          · refine gx_iinc (i := 2) (L' := [_, _, _, _]) hC dX7_passes_191 rfl (ii_1 _) (Nat.le_of_ble_eq_true rfl) rfl (fun u h9 => by first | exact Or.inl rfl | (cases h9; done) | (right; cases h9; first | rfl | exact isR_cat aref_isR | exact isR_cat kv_isR)) ?_
            refine gx_goto (tgt := 88) hC dX7_passes_194 (by decide) ?_
            have h9 := ih (i + 1) (some (.int (oI (mOn (mKs w c i) (nI (i + 1)) c)))) (by omega) (by omega)
            rw [mKs, mK1] at h9
            rw [oI_n0 c_105 (fun j e => by have := mOn_lt e; omega)] at h9 ⊢
            exact h9
          · obtain ⟨b, e8⟩ := oI_s0 c_105
            have hb := (mOn_lt e8).1
            rw [e8, show oI (some b) = nI b from rfl]
            refine gx_aload_n (i := 0) hC dX7_passes_108 rfl rfl (by first | exact Or.inr ⟨_, rfl⟩ | exact Or.inl rfl | exact kv_isR | exact aref_isR) ?_
            refine gx_iload_n (i := 3) hC dX7_passes_109 rfl rfl ?_
            refine gx_callV1 hC dX7_passes_110 (c_X7_isOver _ _ gM (hw.ks i) (by omega)) kY_X7_isOver kV_X7_isOver ml_X7_98 (by first | exact gM.at215 | exact gM.at216 | exact gM.at217 | exact gM.at218 | exact gM.at219 | exact gM.at220 | exact gM.at221 | exact gM.at222 | exact gM.at223 | exact gM.at224 | exact gM.at225) rfl (by decide) rfl rfl rfl (by first | exact Nat.le_of_ble_eq_true rfl | (simp [Value.category, isR_cat kv_isR, isR_cat aref_isR]; done)) (Nat.le_refl _) (Nat.le_refl _) ?_
            refine gx_ifb_eq (tgt := 191) hC dX7_passes_113 (by decide) (fun c_113 => ?_) (fun c_113 => ?_)
            · refine gx_iinc (i := 2) (L' := [_, _, _, _]) hC dX7_passes_191 rfl (ii_1 _) (Nat.le_of_ble_eq_true rfl) rfl (fun u h9 => by first | exact Or.inl rfl | (cases h9; done) | (right; cases h9; first | rfl | exact isR_cat aref_isR | exact isR_cat kv_isR)) ?_
              refine gx_goto (tgt := 88) hC dX7_passes_194 (by decide) ?_
              have h9 := ih (i + 1) (some (.int (nI b))) (by omega) (by omega)
              rw [mKs, mK1] at h9
              rw [e8] at h9
              simp only at h9
              rw [if_neg (fun q => by rw [q.1] at c_113; cases c_113)] at h9
              exact h9
            · refine gx_aload_n (i := 0) hC dX7_passes_116 rfl rfl (by first | exact Or.inr ⟨_, rfl⟩ | exact Or.inl rfl | exact kv_isR | exact aref_isR) ?_
              refine gx_iload_n (i := 2) hC dX7_passes_117 rfl rfl ?_
              refine gx_iconst (v := 1) hC dX7_passes_118 ic_1 ?_
              refine gx_isub hC dX7_passes_119 ?_
              rw [nI_p1]
              refine gx_callV1 hC dX7_passes_120 (c_X7_on _ _ gM (hw.ks i) _) kY_X7_on kV_X7_on ml_X7_68 (by first | exact gM.at215 | exact gM.at216 | exact gM.at217 | exact gM.at218 | exact gM.at219 | exact gM.at220 | exact gM.at221 | exact gM.at222 | exact gM.at223 | exact gM.at224 | exact gM.at225) rfl (by decide) rfl rfl rfl (by first | exact Nat.le_of_ble_eq_true rfl | (simp [Value.category, isR_cat kv_isR, isR_cat aref_isR]; done)) (Nat.le_refl _) (Nat.le_refl _) ?_
              refine gx_bipush (v := -6) hC dX7_passes_123 bp_m6 ?_
              refine gx_icmp_ne (tgt := 191) hC dX7_passes_125 (by decide) (fun c_125 => ?_) (fun c_125 => ?_)
              · refine gx_iinc (i := 2) (L' := [_, _, _, _]) hC dX7_passes_191 rfl (ii_1 _) (Nat.le_of_ble_eq_true rfl) rfl (fun u h9 => by first | exact Or.inl rfl | (cases h9; done) | (right; cases h9; first | rfl | exact isR_cat aref_isR | exact isR_cat kv_isR)) ?_
                refine gx_goto (tgt := 88) hC dX7_passes_194 (by decide) ?_
                have h9 := ih (i + 1) (some (.int (nI b))) (by omega) (by omega)
                rw [mKs, mK1] at h9
                rw [e8] at h9
                simp only at h9
                rw [if_neg (fun q => c_125 (by rw [q.2.1]; rfl))] at h9
                exact h9
              · refine gx_aload_n (i := 0) hC dX7_passes_128 rfl rfl (by first | exact Or.inr ⟨_, rfl⟩ | exact Or.inl rfl | exact kv_isR | exact aref_isR) ?_
                refine gx_getR hC dX7_passes_129 fl_X7_7 (by first | exact gM.at215 | exact gM.at216 | exact gM.at217 | exact gM.at218 | exact gM.at219 | exact gM.at220 | exact gM.at221 | exact gM.at222 | exact gM.at223 | exact gM.at224 | exact gM.at225) rfl (gM.r216) (by decide) ?_
                refine gx_bipush (v := nI 6) hC dX7_passes_132 bp_6n ?_
                refine gx_iald hC dX7_passes_134 (by first | exact gM.at215 | exact gM.at216 | exact gM.at217 | exact gM.at218 | exact gM.at219 | exact gM.at220 | exact gM.at221 | exact gM.at222 | exact gM.at223 | exact gM.at224 | exact gM.at225) (by exact vpn (by omega) (by decide)) (pRn (by omega)) ?_
                refine gx_iconst (v := 1) hC dX7_passes_135 ic_1 ?_
                refine gx_icmp_eq (tgt := 154) hC dX7_passes_136 (by decide) (fun c_136 => ?_) (fun c_136 => ?_)
                · refine gx_aload_n (i := 0) hC dX7_passes_154 rfl rfl (by first | exact Or.inr ⟨_, rfl⟩ | exact Or.inl rfl | exact kv_isR | exact aref_isR) ?_
                  refine gx_getR hC dX7_passes_155 fl_X7_7 (by first | exact gM.at215 | exact gM.at216 | exact gM.at217 | exact gM.at218 | exact gM.at219 | exact gM.at220 | exact gM.at221 | exact gM.at222 | exact gM.at223 | exact gM.at224 | exact gM.at225) rfl (gM.r216) (by decide) ?_
                  refine gx_iload_n (i := 3) hC dX7_passes_158 rfl rfl ?_
                  refine gx_callS1 hC dX7_passes_159 (c_X7_at _ _ _) kY_X7_at kS_X7_at ml_X7_52 (by decide) rfl rfl rfl (by first | exact Nat.le_of_ble_eq_true rfl | (simp [Value.category, isR_cat kv_isR, isR_cat aref_isR]; done)) (Nat.le_refl _) (Nat.le_refl _) ?_
                  refine gx_iconst (v := nI 3) hC dX7_passes_162 ic_3n ?_
                  refine gx_iadd hC dX7_passes_163 ?_
                  rw [nI_add]
                  refine gx_iload_n (i := 2) hC dX7_passes_164 rfl rfl ?_
                  refine gx_iconst (v := 1) hC dX7_passes_165 ic_1 ?_
                  refine gx_isub hC dX7_passes_166 ?_
                  rw [nI_p1]
                  refine gx_iastM hC dX7_passes_167 (by first | exact gM.at215 | exact gM.at216 | exact gM.at217 | exact gM.at218 | exact gM.at219 | exact gM.at220 | exact gM.at221 | exact gM.at222 | exact gM.at223 | exact gM.at224 | exact gM.at225) (by exact vpn (by omega) (by decide)) (up_Rn (by omega)) ?_
                  refine gx_aload_n (i := 0) hC dX7_passes_168 rfl rfl (by first | exact Or.inr ⟨_, rfl⟩ | exact Or.inl rfl | exact kv_isR | exact aref_isR) ?_
                  refine gx_getR hC dX7_passes_169 fl_X7_7 (by first | exact gM.at215 | exact gM.at216 | exact gM.at217 | exact gM.at218 | exact gM.at219 | exact gM.at220 | exact gM.at221 | exact gM.at222 | exact gM.at223 | exact gM.at224 | exact gM.at225) rfl (gM.r216) (by decide) ?_
                  refine gx_iload_n (i := 3) hC dX7_passes_172 rfl rfl ?_
                  refine gx_callS1 hC dX7_passes_173 (c_X7_at _ _ _) kY_X7_at kS_X7_at ml_X7_52 (by decide) rfl rfl rfl (by first | exact Nat.le_of_ble_eq_true rfl | (simp [Value.category, isR_cat kv_isR, isR_cat aref_isR]; done)) (Nat.le_refl _) (Nat.le_refl _) ?_
                  refine gx_iconst (v := nI 5) hC dX7_passes_176 ic_5n ?_
                  refine gx_iadd hC dX7_passes_177 ?_
                  rw [nI_add]
                  refine gx_iconst (v := 0) hC dX7_passes_178 ic_0 ?_
                  refine gx_iastM hC dX7_passes_179 (by first | exact gM.at215 | exact gM.at216 | exact gM.at217 | exact gM.at218 | exact gM.at219 | exact gM.at220 | exact gM.at221 | exact gM.at222 | exact gM.at223 | exact gM.at224 | exact gM.at225) (by exact vpn (by omega) (by decide)) (up_Rn (by omega)) ?_
                  refine gx_aload_n (i := 0) hC dX7_passes_180 rfl rfl (by first | exact Or.inr ⟨_, rfl⟩ | exact Or.inl rfl | exact kv_isR | exact aref_isR) ?_
                  refine gx_getR hC dX7_passes_181 fl_X7_7 (by first | exact gM.at215 | exact gM.at216 | exact gM.at217 | exact gM.at218 | exact gM.at219 | exact gM.at220 | exact gM.at221 | exact gM.at222 | exact gM.at223 | exact gM.at224 | exact gM.at225) rfl (gM.r216) (by decide) ?_
                  refine gx_bipush (v := nI 8) hC dX7_passes_184 bp_8n ?_
                  refine gx_dup2 hC dX7_passes_186 rfl rfl ?_
                  refine gx_iald hC dX7_passes_187 (by first | exact gM.at215 | exact gM.at216 | exact gM.at217 | exact gM.at218 | exact gM.at219 | exact gM.at220 | exact gM.at221 | exact gM.at222 | exact gM.at223 | exact gM.at224 | exact gM.at225) (by exact vpn (by omega) (by decide)) (pRn (by omega)) ?_
                  refine gx_iconst (v := 1) hC dX7_passes_188 ic_1 ?_
                  refine gx_iadd hC dX7_passes_189 ?_
                  refine gx_iastM hC dX7_passes_190 (by first | exact gM.at215 | exact gM.at216 | exact gM.at217 | exact gM.at218 | exact gM.at219 | exact gM.at220 | exact gM.at221 | exact gM.at222 | exact gM.at223 | exact gM.at224 | exact gM.at225) (by exact vpn (by omega) (by decide)) (up_Rn (by omega)) ?_
                  refine gx_iinc (i := 2) (L' := [_, _, _, _]) hC dX7_passes_191 rfl (ii_1 _) (Nat.le_of_ble_eq_true rfl) rfl (fun u h9 => by first | exact Or.inl rfl | (cases h9; done) | (right; cases h9; first | rfl | exact isR_cat aref_isR | exact isR_cat kv_isR)) ?_
                  refine gx_goto (tgt := 88) hC dX7_passes_194 (by decide) ?_
                  have h9 := ih (i + 1) (some (.int (nI b))) (by omega) (by omega)
                  rw [mKs, mK1] at h9
                  rw [e8] at h9
                  simp only at h9
                  rw [if_pos ⟨c_113, oI_6 c_125 (fun j e => by have := mOn_lt e; omega), Or.inl c_136⟩] at h9
                  exact h9
                · refine gx_aload_n (i := 0) hC dX7_passes_139 rfl rfl (by first | exact Or.inr ⟨_, rfl⟩ | exact Or.inl rfl | exact kv_isR | exact aref_isR) ?_
                  refine gx_getR hC dX7_passes_140 fl_X7_7 (by first | exact gM.at215 | exact gM.at216 | exact gM.at217 | exact gM.at218 | exact gM.at219 | exact gM.at220 | exact gM.at221 | exact gM.at222 | exact gM.at223 | exact gM.at224 | exact gM.at225) rfl (gM.r216) (by decide) ?_
                  refine gx_iload_n (i := 3) hC dX7_passes_143 rfl rfl ?_
                  refine gx_callS1 hC dX7_passes_144 (c_X7_at _ _ _) kY_X7_at kS_X7_at ml_X7_52 (by decide) rfl rfl rfl (by first | exact Nat.le_of_ble_eq_true rfl | (simp [Value.category, isR_cat kv_isR, isR_cat aref_isR]; done)) (Nat.le_refl _) (Nat.le_refl _) ?_
                  refine gx_iconst (v := nI 5) hC dX7_passes_147 ic_5n ?_
                  refine gx_iadd hC dX7_passes_148 ?_
                  rw [nI_add]
                  refine gx_iald hC dX7_passes_149 (by first | exact gM.at215 | exact gM.at216 | exact gM.at217 | exact gM.at218 | exact gM.at219 | exact gM.at220 | exact gM.at221 | exact gM.at222 | exact gM.at223 | exact gM.at224 | exact gM.at225) (by exact vpn (by omega) (by decide)) (pRn (by omega)) ?_
                  refine gx_iconst (v := 1) hC dX7_passes_150 ic_1 ?_
                  refine gx_icmp_ne (tgt := 191) hC dX7_passes_151 (by decide) (fun c_151 => ?_) (fun c_151 => ?_)
                  · refine gx_iinc (i := 2) (L' := [_, _, _, _]) hC dX7_passes_191 rfl (ii_1 _) (Nat.le_of_ble_eq_true rfl) rfl (fun u h9 => by first | exact Or.inl rfl | (cases h9; done) | (right; cases h9; first | rfl | exact isR_cat aref_isR | exact isR_cat kv_isR)) ?_
                    refine gx_goto (tgt := 88) hC dX7_passes_194 (by decide) ?_
                    have h9 := ih (i + 1) (some (.int (nI b))) (by omega) (by omega)
                    rw [mKs, mK1] at h9
                    rw [e8] at h9
                    simp only at h9
                    rw [if_neg (fun q => q.2.2.elim c_136 c_151)] at h9
                    exact h9
                  · refine gx_aload_n (i := 0) hC dX7_passes_154 rfl rfl (by first | exact Or.inr ⟨_, rfl⟩ | exact Or.inl rfl | exact kv_isR | exact aref_isR) ?_
                    refine gx_getR hC dX7_passes_155 fl_X7_7 (by first | exact gM.at215 | exact gM.at216 | exact gM.at217 | exact gM.at218 | exact gM.at219 | exact gM.at220 | exact gM.at221 | exact gM.at222 | exact gM.at223 | exact gM.at224 | exact gM.at225) rfl (gM.r216) (by decide) ?_
                    refine gx_iload_n (i := 3) hC dX7_passes_158 rfl rfl ?_
                    refine gx_callS1 hC dX7_passes_159 (c_X7_at _ _ _) kY_X7_at kS_X7_at ml_X7_52 (by decide) rfl rfl rfl (by first | exact Nat.le_of_ble_eq_true rfl | (simp [Value.category, isR_cat kv_isR, isR_cat aref_isR]; done)) (Nat.le_refl _) (Nat.le_refl _) ?_
                    refine gx_iconst (v := nI 3) hC dX7_passes_162 ic_3n ?_
                    refine gx_iadd hC dX7_passes_163 ?_
                    rw [nI_add]
                    refine gx_iload_n (i := 2) hC dX7_passes_164 rfl rfl ?_
                    refine gx_iconst (v := 1) hC dX7_passes_165 ic_1 ?_
                    refine gx_isub hC dX7_passes_166 ?_
                    rw [nI_p1]
                    refine gx_iastM hC dX7_passes_167 (by first | exact gM.at215 | exact gM.at216 | exact gM.at217 | exact gM.at218 | exact gM.at219 | exact gM.at220 | exact gM.at221 | exact gM.at222 | exact gM.at223 | exact gM.at224 | exact gM.at225) (by exact vpn (by omega) (by decide)) (up_Rn (by omega)) ?_
                    refine gx_aload_n (i := 0) hC dX7_passes_168 rfl rfl (by first | exact Or.inr ⟨_, rfl⟩ | exact Or.inl rfl | exact kv_isR | exact aref_isR) ?_
                    refine gx_getR hC dX7_passes_169 fl_X7_7 (by first | exact gM.at215 | exact gM.at216 | exact gM.at217 | exact gM.at218 | exact gM.at219 | exact gM.at220 | exact gM.at221 | exact gM.at222 | exact gM.at223 | exact gM.at224 | exact gM.at225) rfl (gM.r216) (by decide) ?_
                    refine gx_iload_n (i := 3) hC dX7_passes_172 rfl rfl ?_
                    refine gx_callS1 hC dX7_passes_173 (c_X7_at _ _ _) kY_X7_at kS_X7_at ml_X7_52 (by decide) rfl rfl rfl (by first | exact Nat.le_of_ble_eq_true rfl | (simp [Value.category, isR_cat kv_isR, isR_cat aref_isR]; done)) (Nat.le_refl _) (Nat.le_refl _) ?_
                    refine gx_iconst (v := nI 5) hC dX7_passes_176 ic_5n ?_
                    refine gx_iadd hC dX7_passes_177 ?_
                    rw [nI_add]
                    refine gx_iconst (v := 0) hC dX7_passes_178 ic_0 ?_
                    refine gx_iastM hC dX7_passes_179 (by first | exact gM.at215 | exact gM.at216 | exact gM.at217 | exact gM.at218 | exact gM.at219 | exact gM.at220 | exact gM.at221 | exact gM.at222 | exact gM.at223 | exact gM.at224 | exact gM.at225) (by exact vpn (by omega) (by decide)) (up_Rn (by omega)) ?_
                    refine gx_aload_n (i := 0) hC dX7_passes_180 rfl rfl (by first | exact Or.inr ⟨_, rfl⟩ | exact Or.inl rfl | exact kv_isR | exact aref_isR) ?_
                    refine gx_getR hC dX7_passes_181 fl_X7_7 (by first | exact gM.at215 | exact gM.at216 | exact gM.at217 | exact gM.at218 | exact gM.at219 | exact gM.at220 | exact gM.at221 | exact gM.at222 | exact gM.at223 | exact gM.at224 | exact gM.at225) rfl (gM.r216) (by decide) ?_
                    refine gx_bipush (v := nI 8) hC dX7_passes_184 bp_8n ?_
                    refine gx_dup2 hC dX7_passes_186 rfl rfl ?_
                    refine gx_iald hC dX7_passes_187 (by first | exact gM.at215 | exact gM.at216 | exact gM.at217 | exact gM.at218 | exact gM.at219 | exact gM.at220 | exact gM.at221 | exact gM.at222 | exact gM.at223 | exact gM.at224 | exact gM.at225) (by exact vpn (by omega) (by decide)) (pRn (by omega)) ?_
                    refine gx_iconst (v := 1) hC dX7_passes_188 ic_1 ?_
                    refine gx_iadd hC dX7_passes_189 ?_
                    refine gx_iastM hC dX7_passes_190 (by first | exact gM.at215 | exact gM.at216 | exact gM.at217 | exact gM.at218 | exact gM.at219 | exact gM.at220 | exact gM.at221 | exact gM.at222 | exact gM.at223 | exact gM.at224 | exact gM.at225) (by exact vpn (by omega) (by decide)) (up_Rn (by omega)) ?_
                    refine gx_iinc (i := 2) (L' := [_, _, _, _]) hC dX7_passes_191 rfl (ii_1 _) (Nat.le_of_ble_eq_true rfl) rfl (fun u h9 => by first | exact Or.inl rfl | (cases h9; done) | (right; cases h9; first | rfl | exact isR_cat aref_isR | exact isR_cat kv_isR)) ?_
                    refine gx_goto (tgt := 88) hC dX7_passes_194 (by decide) ?_
                    have h9 := ih (i + 1) (some (.int (nI b))) (by omega) (by omega)
                    rw [mKs, mK1] at h9
                    rw [e8] at h9
                    simp only at h9
                    rw [if_pos ⟨c_113, oI_6 c_125 (fun j e => by have := mOn_lt e; omega), Or.inr c_151⟩] at h9
                    exact h9
    exact loop_88 (lv + 1) 0 u3 (by omega) (by omega)
  refine gx_aload_n (i := 0) hC dX7_passes_0 rfl rfl (by first | exact Or.inr ⟨_, rfl⟩ | exact Or.inl rfl | exact kv_isR | exact aref_isR) ?_
  refine gx_callV0 hC dX7_passes_1 (c_X7_burns _ _ gM hW hR3) kY_X7_burns kV_X7_burns ml_X7_104 (by first | exact gM.at215 | exact gM.at216 | exact gM.at217 | exact gM.at218 | exact gM.at219 | exact gM.at220 | exact gM.at221 | exact gM.at222 | exact gM.at223 | exact gM.at224 | exact gM.at225) rfl (by decide) rfl rfl rfl (by first | exact Nat.le_of_ble_eq_true rfl | (simp [Value.category, isR_cat kv_isR, isR_cat aref_isR]; done)) (Nat.le_refl _) (Nat.le_refl _) ?_
  refine gx_aload_n (i := 0) hC dX7_passes_4 rfl rfl (by first | exact Or.inr ⟨_, rfl⟩ | exact Or.inl rfl | exact kv_isR | exact aref_isR) ?_
  refine gx_getR hC dX7_passes_5 fl_X7_7 (by first | exact gM.at215 | exact gM.at216 | exact gM.at217 | exact gM.at218 | exact gM.at219 | exact gM.at220 | exact gM.at221 | exact gM.at222 | exact gM.at223 | exact gM.at224 | exact gM.at225) rfl (gM.r216) (by decide) ?_
  refine gx_iconst (v := nI 4) hC dX7_passes_8 ic_4n ?_
  refine gx_dup2 hC dX7_passes_9 rfl rfl ?_
  refine gx_iald hC dX7_passes_10 (by first | exact gM.at215 | exact gM.at216 | exact gM.at217 | exact gM.at218 | exact gM.at219 | exact gM.at220 | exact gM.at221 | exact gM.at222 | exact gM.at223 | exact gM.at224 | exact gM.at225) (by exact vpn (by omega) (by decide)) (pRn (by omega)) ?_
  refine gx_aload_n (i := 0) hC dX7_passes_11 rfl rfl (by first | exact Or.inr ⟨_, rfl⟩ | exact Or.inl rfl | exact kv_isR | exact aref_isR) ?_
  refine gx_getR hC dX7_passes_12 fl_X7_7 (by first | exact gM.at215 | exact gM.at216 | exact gM.at217 | exact gM.at218 | exact gM.at219 | exact gM.at220 | exact gM.at221 | exact gM.at222 | exact gM.at223 | exact gM.at224 | exact gM.at225) rfl (gM.r216) (by decide) ?_
  refine gx_iconst (v := nI 4) hC dX7_passes_15 ic_4n ?_
  refine gx_iald hC dX7_passes_16 (by first | exact gM.at215 | exact gM.at216 | exact gM.at217 | exact gM.at218 | exact gM.at219 | exact gM.at220 | exact gM.at221 | exact gM.at222 | exact gM.at223 | exact gM.at224 | exact gM.at225) (by exact vpn (by omega) (by decide)) (pRn (by omega)) ?_
  refine gx_if_le (tgt := 24) hC dX7_passes_17 (by decide) (fun c_17 => ?_) (fun c_17 => ?_)
  · refine gx_iconst (v := 0) hC dX7_passes_24 ic_0 ?_
    refine gx_isub hC dX7_passes_25 ?_
    refine gx_iastM hC dX7_passes_26 (by first | exact gM.at215 | exact gM.at216 | exact gM.at217 | exact gM.at218 | exact gM.at219 | exact gM.at220 | exact gM.at221 | exact gM.at222 | exact gM.at223 | exact gM.at224 | exact gM.at225) (by exact vpn (by omega) (by decide)) (up_Rn (by omega)) ?_
    show hG z n X n (putRow M 216 (upd (mBu v c) 4 (mBu v c 4 - 0))) R _ _ _
    rw [show upd (mBu v c) 4 (mBu v c 4 - 0) = mB2 v c by unfold mB2 mW1; rw [if_neg (Int32.not_lt.mpr c_17)]]
    refine gx_aload_n (i := 0) hC dX7_passes_27 rfl rfl (by first | exact Or.inr ⟨_, rfl⟩ | exact Or.inl rfl | exact kv_isR | exact aref_isR) ?_
    refine gx_getR hC dX7_passes_28 fl_X7_7 (by first | exact gM.at215 | exact gM.at216 | exact gM.at217 | exact gM.at218 | exact gM.at219 | exact gM.at220 | exact gM.at221 | exact gM.at222 | exact gM.at223 | exact gM.at224 | exact gM.at225) rfl (gM.r216) (by decide) ?_
    refine gx_iconst (v := nI 5) hC dX7_passes_31 ic_5n ?_
    refine gx_iald hC dX7_passes_32 (by first | exact gM.at215 | exact gM.at216 | exact gM.at217 | exact gM.at218 | exact gM.at219 | exact gM.at220 | exact gM.at221 | exact gM.at222 | exact gM.at223 | exact gM.at224 | exact gM.at225) (by exact vpn (by omega) (by decide)) (pRn (by omega)) ?_
    refine gx_iconst (v := 1) hC dX7_passes_33 ic_1 ?_
    refine gx_icmp_ne (tgt := 53) hC dX7_passes_34 (by decide) (fun c_34 => ?_) (fun c_34 => ?_)
    · refine gx_bipush (v := -6) hC dX7_passes_53 bp_m6 ?_
      refine gx_istore_n (i := 1) (L' := [_, _, _, _]) hC dX7_passes_55 rfl (Nat.le_of_ble_eq_true rfl) rfl (fun u h9 => by first | exact Or.inl rfl | (cases h9; done) | (right; cases h9; first | rfl | exact isR_cat aref_isR | exact isR_cat kv_isR)) ?_
      refine gx_iload_n (i := 1) hC dX7_passes_56 rfl rfl ?_
      refine gx_if_lt (tgt := 86) hC dX7_passes_57 (by decide) (fun c_57 => ?_) (fun c_57 => ?_)
      · exact tail _ none _ hW.b2 (by rw [mPa, mPq, if_neg (fun q => c_34 q.1)]) (by rw [mPa, mPq, if_neg (fun q => c_34 q.1)]; rfl)
      · exact absurd (by decide) c_57
    · refine gx_aload_n (i := 0) hC dX7_passes_37 rfl rfl (by first | exact Or.inr ⟨_, rfl⟩ | exact Or.inl rfl | exact kv_isR | exact aref_isR) ?_
      refine gx_getR hC dX7_passes_38 fl_X7_7 (by first | exact gM.at215 | exact gM.at216 | exact gM.at217 | exact gM.at218 | exact gM.at219 | exact gM.at220 | exact gM.at221 | exact gM.at222 | exact gM.at223 | exact gM.at224 | exact gM.at225) rfl (gM.r216) (by decide) ?_
      refine gx_iconst (v := nI 4) hC dX7_passes_41 ic_4n ?_
      refine gx_iald hC dX7_passes_42 (by first | exact gM.at215 | exact gM.at216 | exact gM.at217 | exact gM.at218 | exact gM.at219 | exact gM.at220 | exact gM.at221 | exact gM.at222 | exact gM.at223 | exact gM.at224 | exact gM.at225) (by exact vpn (by omega) (by decide)) (pRn (by omega)) ?_
      refine gx_if_ne (tgt := 53) hC dX7_passes_43 (by decide) (fun c_43 => ?_) (fun c_43 => ?_)
      · refine gx_bipush (v := -6) hC dX7_passes_53 bp_m6 ?_
        refine gx_istore_n (i := 1) (L' := [_, _, _, _]) hC dX7_passes_55 rfl (Nat.le_of_ble_eq_true rfl) rfl (fun u h9 => by first | exact Or.inl rfl | (cases h9; done) | (right; cases h9; first | rfl | exact isR_cat aref_isR | exact isR_cat kv_isR)) ?_
        refine gx_iload_n (i := 1) hC dX7_passes_56 rfl rfl ?_
        refine gx_if_lt (tgt := 86) hC dX7_passes_57 (by decide) (fun c_57 => ?_) (fun c_57 => ?_)
        · exact tail _ none _ hW.b2 (by rw [mPa, mPq, if_neg (fun q => c_43 q.2)]) (by rw [mPa, mPq, if_neg (fun q => c_43 q.2)]; rfl)
        · exact absurd (by decide) c_57
      · refine gx_aload_n (i := 0) hC dX7_passes_46 rfl rfl (by first | exact Or.inr ⟨_, rfl⟩ | exact Or.inl rfl | exact kv_isR | exact aref_isR) ?_
        refine gx_callV1 hC dX7_passes_47 (c_X7_lander _ _ gM hW.b2 hR3) kY_X7_lander kV_X7_lander ml_X7_107 (by first | exact gM.at215 | exact gM.at216 | exact gM.at217 | exact gM.at218 | exact gM.at219 | exact gM.at220 | exact gM.at221 | exact gM.at222 | exact gM.at223 | exact gM.at224 | exact gM.at225) rfl (by decide) rfl rfl rfl (by first | exact Nat.le_of_ble_eq_true rfl | (simp [Value.category, isR_cat kv_isR, isR_cat aref_isR]; done)) (Nat.le_refl _) (Nat.le_refl _) ?_
        refine gx_goto (tgt := 55) hC dX7_passes_50 (by decide) ?_
        refine gx_istore_n (i := 1) (L' := [_, _, _, _]) hC dX7_passes_55 rfl (Nat.le_of_ble_eq_true rfl) rfl (fun u h9 => by first | exact Or.inl rfl | (cases h9; done) | (right; cases h9; first | rfl | exact isR_cat aref_isR | exact isR_cat kv_isR)) ?_
        refine gx_iload_n (i := 1) hC dX7_passes_56 rfl rfl ?_
        refine gx_if_lt (tgt := 86) hC dX7_passes_57 (by decide) (fun c_57 => ?_) (fun c_57 => ?_)
        · have e7 := oI_n0 c_57 (fun j e => by have := mLd_lt e; omega)
          rw [e7]
          exact tail _ none _ hW.b2 (by rw [mPa, mPq, if_pos ⟨c_34, c_43⟩, e7]) (by rw [mPa, mPq, if_pos ⟨c_34, c_43⟩, e7]; rfl)
        · obtain ⟨j, e7⟩ := oI_s0 c_57
          have hj := mLd_lt e7
          rw [e7, show oI (some j) = nI j from rfl]
          refine gx_aload_n (i := 0) hC dX7_passes_60 rfl rfl (by first | exact Or.inr ⟨_, rfl⟩ | exact Or.inl rfl | exact kv_isR | exact aref_isR) ?_
          refine gx_iload_n (i := 1) hC dX7_passes_61 rfl rfl ?_
          refine gx_iconst (v := 1) hC dX7_passes_62 ic_1 ?_
          refine gx_callV0 hC dX7_passes_63 (c_X7_leaves _ _ gM hW.b2 (by omega) _) kY_X7_leaves kV_X7_leaves ml_X7_94 (by first | exact gM.at215 | exact gM.at216 | exact gM.at217 | exact gM.at218 | exact gM.at219 | exact gM.at220 | exact gM.at221 | exact gM.at222 | exact gM.at223 | exact gM.at224 | exact gM.at225) rfl (by decide) rfl rfl rfl (by first | exact Nat.le_of_ble_eq_true rfl | (simp [Value.category, isR_cat kv_isR, isR_cat aref_isR]; done)) (Nat.le_refl _) (Nat.le_refl _) ?_
          refine gx_aload_n (i := 0) hC dX7_passes_66 rfl rfl (by first | exact Or.inr ⟨_, rfl⟩ | exact Or.inl rfl | exact kv_isR | exact aref_isR) ?_
          refine gx_getR hC dX7_passes_67 fl_X7_7 (by first | exact gM.at215 | exact gM.at216 | exact gM.at217 | exact gM.at218 | exact gM.at219 | exact gM.at220 | exact gM.at221 | exact gM.at222 | exact gM.at223 | exact gM.at224 | exact gM.at225) rfl (gM.r216) (by decide) ?_
          refine gx_iconst (v := nI 4) hC dX7_passes_70 ic_4n ?_
          refine gx_aload_n (i := 0) hC dX7_passes_71 rfl rfl (by first | exact Or.inr ⟨_, rfl⟩ | exact Or.inl rfl | exact kv_isR | exact aref_isR) ?_
          refine gx_getR hC dX7_passes_72 fl_X7_38 (by first | exact gM.at215 | exact gM.at216 | exact gM.at217 | exact gM.at218 | exact gM.at219 | exact gM.at220 | exact gM.at221 | exact gM.at222 | exact gM.at223 | exact gM.at224 | exact gM.at225) rfl (gM.r225) (by decide) ?_
          refine gx_aload_n (i := 0) hC dX7_passes_75 rfl rfl (by first | exact Or.inr ⟨_, rfl⟩ | exact Or.inl rfl | exact kv_isR | exact aref_isR) ?_
          refine gx_getR hC dX7_passes_76 fl_X7_7 (by first | exact gM.at215 | exact gM.at216 | exact gM.at217 | exact gM.at218 | exact gM.at219 | exact gM.at220 | exact gM.at221 | exact gM.at222 | exact gM.at223 | exact gM.at224 | exact gM.at225) rfl (gM.r216) (by decide) ?_
          refine gx_iload_n (i := 1) hC dX7_passes_79 rfl rfl ?_
          refine gx_callS1 hC dX7_passes_80 (c_X7_at _ _ _) kY_X7_at kS_X7_at ml_X7_52 (by decide) rfl rfl rfl (by first | exact Nat.le_of_ble_eq_true rfl | (simp [Value.category, isR_cat kv_isR, isR_cat aref_isR]; done)) (Nat.le_refl _) (Nat.le_refl _) ?_
          refine gx_iald hC dX7_passes_83 (by first | exact gM.at215 | exact gM.at216 | exact gM.at217 | exact gM.at218 | exact gM.at219 | exact gM.at220 | exact gM.at221 | exact gM.at222 | exact gM.at223 | exact gM.at224 | exact gM.at225) (by exact vpn (by omega) (by decide)) (pRn (by omega)) ?_
          refine gx_iald hC dX7_passes_84 (by first | exact gM.at215 | exact gM.at216 | exact gM.at217 | exact gM.at218 | exact gM.at219 | exact gM.at220 | exact gM.at221 | exact gM.at222 | exact gM.at223 | exact gM.at224 | exact gM.at225) (by exact hk_in ((hW.b2.leave j 1).kd (by omega))) ((pRo (by decide)).trans ((hR3 _ ((hW.b2.leave j 1).kd (by omega))).2.2)) ?_
          refine gx_iastM hC dX7_passes_85 (by first | exact gM.at215 | exact gM.at216 | exact gM.at217 | exact gM.at218 | exact gM.at219 | exact gM.at220 | exact gM.at221 | exact gM.at222 | exact gM.at223 | exact gM.at224 | exact gM.at225) (by exact vpn (by omega) (by decide)) (up_Rn (by omega)) ?_
          exact tail _ (some j) _ (hW.b2.v3 (some j)) (by rw [mPa, mPq, if_pos ⟨c_34, c_43⟩, e7]) (by rw [mPa, mPq, if_pos ⟨c_34, c_43⟩, e7]; rfl)
  · refine gx_iconst (v := 1) hC dX7_passes_20 ic_1 ?_
    refine gx_goto (tgt := 25) hC dX7_passes_21 (by decide) ?_
    refine gx_isub hC dX7_passes_25 ?_
    refine gx_iastM hC dX7_passes_26 (by first | exact gM.at215 | exact gM.at216 | exact gM.at217 | exact gM.at218 | exact gM.at219 | exact gM.at220 | exact gM.at221 | exact gM.at222 | exact gM.at223 | exact gM.at224 | exact gM.at225) (by exact vpn (by omega) (by decide)) (up_Rn (by omega)) ?_
    rw [show upd (mBu v c) 4 (mBu v c 4 - 1) = mB2 v c by unfold mB2 mW1; rw [if_pos (Int32.not_le.mp c_17)]]
    refine gx_aload_n (i := 0) hC dX7_passes_27 rfl rfl (by first | exact Or.inr ⟨_, rfl⟩ | exact Or.inl rfl | exact kv_isR | exact aref_isR) ?_
    refine gx_getR hC dX7_passes_28 fl_X7_7 (by first | exact gM.at215 | exact gM.at216 | exact gM.at217 | exact gM.at218 | exact gM.at219 | exact gM.at220 | exact gM.at221 | exact gM.at222 | exact gM.at223 | exact gM.at224 | exact gM.at225) rfl (gM.r216) (by decide) ?_
    refine gx_iconst (v := nI 5) hC dX7_passes_31 ic_5n ?_
    refine gx_iald hC dX7_passes_32 (by first | exact gM.at215 | exact gM.at216 | exact gM.at217 | exact gM.at218 | exact gM.at219 | exact gM.at220 | exact gM.at221 | exact gM.at222 | exact gM.at223 | exact gM.at224 | exact gM.at225) (by exact vpn (by omega) (by decide)) (pRn (by omega)) ?_
    refine gx_iconst (v := 1) hC dX7_passes_33 ic_1 ?_
    refine gx_icmp_ne (tgt := 53) hC dX7_passes_34 (by decide) (fun c_34 => ?_) (fun c_34 => ?_)
    · refine gx_bipush (v := -6) hC dX7_passes_53 bp_m6 ?_
      refine gx_istore_n (i := 1) (L' := [_, _, _, _]) hC dX7_passes_55 rfl (Nat.le_of_ble_eq_true rfl) rfl (fun u h9 => by first | exact Or.inl rfl | (cases h9; done) | (right; cases h9; first | rfl | exact isR_cat aref_isR | exact isR_cat kv_isR)) ?_
      refine gx_iload_n (i := 1) hC dX7_passes_56 rfl rfl ?_
      refine gx_if_lt (tgt := 86) hC dX7_passes_57 (by decide) (fun c_57 => ?_) (fun c_57 => ?_)
      · exact tail _ none _ hW.b2 (by rw [mPa, mPq, if_neg (fun q => c_34 q.1)]) (by rw [mPa, mPq, if_neg (fun q => c_34 q.1)]; rfl)
      · exact absurd (by decide) c_57
    · refine gx_aload_n (i := 0) hC dX7_passes_37 rfl rfl (by first | exact Or.inr ⟨_, rfl⟩ | exact Or.inl rfl | exact kv_isR | exact aref_isR) ?_
      refine gx_getR hC dX7_passes_38 fl_X7_7 (by first | exact gM.at215 | exact gM.at216 | exact gM.at217 | exact gM.at218 | exact gM.at219 | exact gM.at220 | exact gM.at221 | exact gM.at222 | exact gM.at223 | exact gM.at224 | exact gM.at225) rfl (gM.r216) (by decide) ?_
      refine gx_iconst (v := nI 4) hC dX7_passes_41 ic_4n ?_
      refine gx_iald hC dX7_passes_42 (by first | exact gM.at215 | exact gM.at216 | exact gM.at217 | exact gM.at218 | exact gM.at219 | exact gM.at220 | exact gM.at221 | exact gM.at222 | exact gM.at223 | exact gM.at224 | exact gM.at225) (by exact vpn (by omega) (by decide)) (pRn (by omega)) ?_
      refine gx_if_ne (tgt := 53) hC dX7_passes_43 (by decide) (fun c_43 => ?_) (fun c_43 => ?_)
      · refine gx_bipush (v := -6) hC dX7_passes_53 bp_m6 ?_
        refine gx_istore_n (i := 1) (L' := [_, _, _, _]) hC dX7_passes_55 rfl (Nat.le_of_ble_eq_true rfl) rfl (fun u h9 => by first | exact Or.inl rfl | (cases h9; done) | (right; cases h9; first | rfl | exact isR_cat aref_isR | exact isR_cat kv_isR)) ?_
        refine gx_iload_n (i := 1) hC dX7_passes_56 rfl rfl ?_
        refine gx_if_lt (tgt := 86) hC dX7_passes_57 (by decide) (fun c_57 => ?_) (fun c_57 => ?_)
        · exact tail _ none _ hW.b2 (by rw [mPa, mPq, if_neg (fun q => c_43 q.2)]) (by rw [mPa, mPq, if_neg (fun q => c_43 q.2)]; rfl)
        · exact absurd (by decide) c_57
      · refine gx_aload_n (i := 0) hC dX7_passes_46 rfl rfl (by first | exact Or.inr ⟨_, rfl⟩ | exact Or.inl rfl | exact kv_isR | exact aref_isR) ?_
        refine gx_callV1 hC dX7_passes_47 (c_X7_lander _ _ gM hW.b2 hR3) kY_X7_lander kV_X7_lander ml_X7_107 (by first | exact gM.at215 | exact gM.at216 | exact gM.at217 | exact gM.at218 | exact gM.at219 | exact gM.at220 | exact gM.at221 | exact gM.at222 | exact gM.at223 | exact gM.at224 | exact gM.at225) rfl (by decide) rfl rfl rfl (by first | exact Nat.le_of_ble_eq_true rfl | (simp [Value.category, isR_cat kv_isR, isR_cat aref_isR]; done)) (Nat.le_refl _) (Nat.le_refl _) ?_
        refine gx_goto (tgt := 55) hC dX7_passes_50 (by decide) ?_
        refine gx_istore_n (i := 1) (L' := [_, _, _, _]) hC dX7_passes_55 rfl (Nat.le_of_ble_eq_true rfl) rfl (fun u h9 => by first | exact Or.inl rfl | (cases h9; done) | (right; cases h9; first | rfl | exact isR_cat aref_isR | exact isR_cat kv_isR)) ?_
        refine gx_iload_n (i := 1) hC dX7_passes_56 rfl rfl ?_
        refine gx_if_lt (tgt := 86) hC dX7_passes_57 (by decide) (fun c_57 => ?_) (fun c_57 => ?_)
        · have e7 := oI_n0 c_57 (fun j e => by have := mLd_lt e; omega)
          rw [e7]
          exact tail _ none _ hW.b2 (by rw [mPa, mPq, if_pos ⟨c_34, c_43⟩, e7]) (by rw [mPa, mPq, if_pos ⟨c_34, c_43⟩, e7]; rfl)
        · obtain ⟨j, e7⟩ := oI_s0 c_57
          have hj := mLd_lt e7
          rw [e7, show oI (some j) = nI j from rfl]
          refine gx_aload_n (i := 0) hC dX7_passes_60 rfl rfl (by first | exact Or.inr ⟨_, rfl⟩ | exact Or.inl rfl | exact kv_isR | exact aref_isR) ?_
          refine gx_iload_n (i := 1) hC dX7_passes_61 rfl rfl ?_
          refine gx_iconst (v := 1) hC dX7_passes_62 ic_1 ?_
          refine gx_callV0 hC dX7_passes_63 (c_X7_leaves _ _ gM hW.b2 (by omega) _) kY_X7_leaves kV_X7_leaves ml_X7_94 (by first | exact gM.at215 | exact gM.at216 | exact gM.at217 | exact gM.at218 | exact gM.at219 | exact gM.at220 | exact gM.at221 | exact gM.at222 | exact gM.at223 | exact gM.at224 | exact gM.at225) rfl (by decide) rfl rfl rfl (by first | exact Nat.le_of_ble_eq_true rfl | (simp [Value.category, isR_cat kv_isR, isR_cat aref_isR]; done)) (Nat.le_refl _) (Nat.le_refl _) ?_
          refine gx_aload_n (i := 0) hC dX7_passes_66 rfl rfl (by first | exact Or.inr ⟨_, rfl⟩ | exact Or.inl rfl | exact kv_isR | exact aref_isR) ?_
          refine gx_getR hC dX7_passes_67 fl_X7_7 (by first | exact gM.at215 | exact gM.at216 | exact gM.at217 | exact gM.at218 | exact gM.at219 | exact gM.at220 | exact gM.at221 | exact gM.at222 | exact gM.at223 | exact gM.at224 | exact gM.at225) rfl (gM.r216) (by decide) ?_
          refine gx_iconst (v := nI 4) hC dX7_passes_70 ic_4n ?_
          refine gx_aload_n (i := 0) hC dX7_passes_71 rfl rfl (by first | exact Or.inr ⟨_, rfl⟩ | exact Or.inl rfl | exact kv_isR | exact aref_isR) ?_
          refine gx_getR hC dX7_passes_72 fl_X7_38 (by first | exact gM.at215 | exact gM.at216 | exact gM.at217 | exact gM.at218 | exact gM.at219 | exact gM.at220 | exact gM.at221 | exact gM.at222 | exact gM.at223 | exact gM.at224 | exact gM.at225) rfl (gM.r225) (by decide) ?_
          refine gx_aload_n (i := 0) hC dX7_passes_75 rfl rfl (by first | exact Or.inr ⟨_, rfl⟩ | exact Or.inl rfl | exact kv_isR | exact aref_isR) ?_
          refine gx_getR hC dX7_passes_76 fl_X7_7 (by first | exact gM.at215 | exact gM.at216 | exact gM.at217 | exact gM.at218 | exact gM.at219 | exact gM.at220 | exact gM.at221 | exact gM.at222 | exact gM.at223 | exact gM.at224 | exact gM.at225) rfl (gM.r216) (by decide) ?_
          refine gx_iload_n (i := 1) hC dX7_passes_79 rfl rfl ?_
          refine gx_callS1 hC dX7_passes_80 (c_X7_at _ _ _) kY_X7_at kS_X7_at ml_X7_52 (by decide) rfl rfl rfl (by first | exact Nat.le_of_ble_eq_true rfl | (simp [Value.category, isR_cat kv_isR, isR_cat aref_isR]; done)) (Nat.le_refl _) (Nat.le_refl _) ?_
          refine gx_iald hC dX7_passes_83 (by first | exact gM.at215 | exact gM.at216 | exact gM.at217 | exact gM.at218 | exact gM.at219 | exact gM.at220 | exact gM.at221 | exact gM.at222 | exact gM.at223 | exact gM.at224 | exact gM.at225) (by exact vpn (by omega) (by decide)) (pRn (by omega)) ?_
          refine gx_iald hC dX7_passes_84 (by first | exact gM.at215 | exact gM.at216 | exact gM.at217 | exact gM.at218 | exact gM.at219 | exact gM.at220 | exact gM.at221 | exact gM.at222 | exact gM.at223 | exact gM.at224 | exact gM.at225) (by exact hk_in ((hW.b2.leave j 1).kd (by omega))) ((pRo (by decide)).trans ((hR3 _ ((hW.b2.leave j 1).kd (by omega))).2.2)) ?_
          refine gx_iastM hC dX7_passes_85 (by first | exact gM.at215 | exact gM.at216 | exact gM.at217 | exact gM.at218 | exact gM.at219 | exact gM.at220 | exact gM.at221 | exact gM.at222 | exact gM.at223 | exact gM.at224 | exact gM.at225) (by exact vpn (by omega) (by decide)) (up_Rn (by omega)) ?_
          exact tail _ (some j) _ (hW.b2.v3 (some j)) (by rw [mPa, mPq, if_pos ⟨c_34, c_43⟩, e7]) (by rw [mPa, mPq, if_pos ⟨c_34, c_43⟩, e7]; rfl)
