/-! the law: minutes -/
set_option maxHeartbeats 4000000 in
set_option maxRecDepth 20000 in
theorem u_minutes (l : Launch) (z : hZt) {M : hMem} {R : hRef} {v : gRow} {lv c q m a : Nat} {H : Nat → gRow} {K : Nat → Option gRow} (h : PI M R v lv c q H K) (hm1 : 1 ≤ m) (hm99 : m ≤ 99) (ha : a < c) : ∃ M9 R9 q9 H9, hCt l z m_L_minutes [.ref (z.1 + 0), .int (nI m), .int (nI a)] 215 M R 215 (some (.int 1)) M9 R9 ∧ PI M9 R9 (mGo v lv c m) lv c q9 H9 (fun x => if x = 0 then some v else K x) := by
  have c20 := h.sw.c20
  have l16 := h.sw.l16
  obtain ⟨M1, k1, h1⟩ := t_ml (l := l) (z := z) h ha
  obtain ⟨M2, k2, h2⟩ := t_lw (l := l) (z := z) h1 ha
  obtain ⟨M3, k3, h3⟩ := t_la (l := l) (z := z) h2
  obtain ⟨M4, k4, h4⟩ := t_keep (l := l) (z := z) h3 (i := 0) (by decide)
  obtain ⟨M5, R5, k5, h5⟩ := t_pass (l := l) (z := z) h4 hm1 hm99
  obtain ⟨M6, R6, k6, h6⟩ := t_rest (l := l) (z := z) h5 (i := 0) (by decide) (w := v) (if_pos rfl) h.rl.wv.mw.lv h.rl.wv.mw.ct l16 c20
  obtain ⟨Mf, Rf, e0, e1, hP, hK⟩ := t_chain (l := l) (z := z) h6 m
  obtain ⟨qm, Hm, hm⟩ := hP m (Nat.le_refl m)
  refine ⟨Mf m, Rf m, qm, Hm, ?_, hm⟩
  refine hs_start [some (.ref (z.1 + 0)), some (.int (nI m)), some (.int (nI a)), none, none, none, none, none, none, none, none, none, none, none] (by decide +kernel) rfl (by intro u hu; simp at hu; rcases hu with rfl | rfl | rfl <;> first | rfl | exact isR_cat kv_isR | exact isR_cat aref_isR) (Nat.le_of_ble_eq_true rfl) (Nat.le_refl _) (fun X hlX hN hC hQ => ?_)
  dsimp only at hC hQ
  subst hlX
  have j160 : hG z 215 X 215 M5 R5 160 [some (.ref (z.1 + 0)), some (.int (nI m)), some (.int (nI a)), some (.int (mLm v lv c a)), some (.int (mLf v lv c a)), some (.int (oI (mLx v lv c 600 0 0))), some (.int (nI 1)), some (.int (mCnt v 1 c)), some (.int (mGc v lv c m)), none, none, none, none, none] [] := by
    refine gx_aload_n (i := 0) hC dL_minutes_160 rfl rfl (by first | exact Or.inr ⟨_, rfl⟩ | exact Or.inl rfl) ?_
    refine gx_bipush (v := nI 13) hC dL_minutes_161 bp_13n ?_
    refine gx_callV1 hC dL_minutes_163 (tt13 h5) kY_X6_tell kV_X6_tell ml_L_9 (by exact h.gs.at0) rfl (by decide) rfl rfl rfl (by first | exact Nat.le_of_ble_eq_true rfl | (simp [Value.category, isR_cat kv_isR, isR_cat aref_isR]; done)) (Nat.le_refl _) (Nat.le_refl _) ?_
    refine gx_istore (i := 9) (L' := [_, _, _, _, _, _, _, _, _, _, _, _, _, _]) hC dL_minutes_166 (Nat.le_of_ble_eq_true rfl) rfl (fun u h9 => by first | exact Or.inl rfl | (cases h9; done) | (right; cases h9; first | rfl | exact isR_cat aref_isR | exact isR_cat kv_isR)) ?_
    refine gx_aload_n (i := 0) hC dL_minutes_168 rfl rfl (by first | exact Or.inr ⟨_, rfl⟩ | exact Or.inl rfl) ?_
    refine gx_bipush (v := nI 7) hC dL_minutes_169 bp_7n ?_
    refine gx_callV1 hC dL_minutes_171 (tt7 h5) kY_X6_tell kV_X6_tell ml_L_9 (by exact h.gs.at0) rfl (by decide) rfl rfl rfl (by first | exact Nat.le_of_ble_eq_true rfl | (simp [Value.category, isR_cat kv_isR, isR_cat aref_isR]; done)) (Nat.le_refl _) (Nat.le_refl _) ?_
    refine gx_istore (i := 10) (L' := [_, _, _, _, _, _, _, _, _, _, _, _, _, _]) hC dL_minutes_174 (Nat.le_of_ble_eq_true rfl) rfl (fun u h9 => by first | exact Or.inl rfl | (cases h9; done) | (right; cases h9; first | rfl | exact isR_cat aref_isR | exact isR_cat kv_isR)) ?_
    refine gx_aload_n (i := 0) hC dL_minutes_176 rfl rfl (by first | exact Or.inr ⟨_, rfl⟩ | exact Or.inl rfl) ?_
    refine gx_bipush (v := nI 8) hC dL_minutes_177 bp_8n ?_
    refine gx_callV1 hC dL_minutes_179 (tt8 h5) kY_X6_tell kV_X6_tell ml_L_9 (by exact h.gs.at0) rfl (by decide) rfl rfl rfl (by first | exact Nat.le_of_ble_eq_true rfl | (simp [Value.category, isR_cat kv_isR, isR_cat aref_isR]; done)) (Nat.le_refl _) (Nat.le_refl _) ?_
    refine gx_istore (i := 11) (L' := [_, _, _, _, _, _, _, _, _, _, _, _, _, _]) hC dL_minutes_182 (Nat.le_of_ble_eq_true rfl) rfl (fun u h9 => by first | exact Or.inl rfl | (cases h9; done) | (right; cases h9; first | rfl | exact isR_cat aref_isR | exact isR_cat kv_isR)) ?_
    refine gx_iload hC dL_minutes_184 rfl ?_
    refine gx_if_eq (tgt := 206) hC dL_minutes_186 (by decide) (fun c_186 => ?_) (fun c_186 => ?_)
    · first | exact absurd (by decide) c_186 | exact absurd c_186 (by decide)
    · refine gx_aload_n (i := 0) hC dL_minutes_189 rfl rfl (by first | exact Or.inr ⟨_, rfl⟩ | exact Or.inl rfl) ?_
      refine gx_iconst (v := nI 0) hC dL_minutes_190 ic_0n ?_
      refine gx_callV1 hC dL_minutes_191 (k6) kY_X6_restore kV_X6_restore ml_L_43 (by exact h.gs.at0) rfl (by decide) rfl rfl rfl (by first | exact Nat.le_of_ble_eq_true rfl | (simp [Value.category, isR_cat kv_isR, isR_cat aref_isR]; done)) (Nat.le_refl _) (Nat.le_refl _) ?_
      refine gx_aload_n (i := 0) hC dL_minutes_194 rfl rfl (by first | exact Or.inr ⟨_, rfl⟩ | exact Or.inl rfl) ?_
      refine gx_iconst (v := nI 0) hC dL_minutes_195 ic_0n ?_
      refine gx_callV1 hC dL_minutes_196 (tt0 h6) kY_X6_tell kV_X6_tell ml_L_9 (by exact h.gs.at0) rfl (by decide) rfl rfl rfl (by first | exact Nat.le_of_ble_eq_true rfl | (simp [Value.category, isR_cat kv_isR, isR_cat aref_isR]; done)) (Nat.le_refl _) (Nat.le_refl _) ?_
      refine gx_icmp_ne (tgt := 206) hC dL_minutes_199 (by decide) (fun c_199 => ?_) (fun c_199 => ?_)
      · first | exact absurd (by rfl) c_199 | exact absurd c_199 (by rfl)
      · refine gx_iconst (v := nI 1) hC dL_minutes_202 ic_1n ?_
        refine gx_goto (tgt := 207) hC dL_minutes_203 (by decide) ?_
        refine gx_istore (i := 6) (L' := [_, _, _, _, _, _, _, _, _, _, _, _, _, _]) hC dL_minutes_207 (Nat.le_of_ble_eq_true rfl) rfl (fun u h9 => by first | exact Or.inl rfl | (cases h9; done) | (right; cases h9; first | rfl | exact isR_cat aref_isR | exact isR_cat kv_isR)) ?_
        refine gx_iconst (v := nI 0) hC dL_minutes_209 ic_0n ?_
        refine gx_istore (i := 12) (L' := [_, _, _, _, _, _, _, _, _, _, _, _, _, _]) hC dL_minutes_210 (Nat.le_of_ble_eq_true rfl) rfl (fun u h9 => by first | exact Or.inl rfl | (cases h9; done) | (right; cases h9; first | rfl | exact isR_cat aref_isR | exact isR_cat kv_isR)) ?_
        have loop_212 : ∀ (k : Nat) (i : Nat) (w : Option Value), m - i < k → i ≤ m → hG z 215 X 215 (Mf i) (Rf i) 212 [some (.ref (z.1 + 0)), some (.int (nI m)), some (.int (nI a)), some (.int (mLm v lv c a)), some (.int (mLf v lv c a)), some (.int (oI (mLx v lv c 600 0 0))), some (.int (nI 1)), some (.int (mCnt v 1 c)), some (.int (mGc v lv c m - mGc v lv c i)), some (.int (mGo v lv c m 10)), some (.int (mGo v lv c m 8)), some (.int (mGo v lv c m 4)), some (.int (nI i)), w] [] := by
          intro k
          induction k with
          | zero => intros; omega
          | succ k ih =>
            intro i w hk1 hi1
            refine gx_iload hC dL_minutes_212 rfl ?_
            refine gx_iload_n (i := 1) hC dL_minutes_214 rfl rfl ?_
            refine gx_icmp_ge (tgt := 261) hC dL_minutes_215 (by decide) (fun c_215 => ?_) (fun c_215 => ?_)
            · have d_215 := cle (by omega) (by omega) c_215
              rw [show i = m by omega]
              refine gx_iload hC dL_minutes_261 rfl ?_
              refine gx_if_eq (tgt := 308) hC dL_minutes_263 (by decide) (fun c_263 => ?_) (fun c_263 => ?_)
              · first | exact absurd (by decide) c_263 | exact absurd c_263 (by decide)
              · refine gx_iload hC dL_minutes_266 rfl ?_
                refine gx_if_ne (tgt := 308) hC dL_minutes_268 (by decide) (fun c_268 => ?_) (fun c_268 => ?_)
                · first | exact absurd (by exact Int32.sub_self _) c_268 | exact absurd c_268 (by exact Int32.sub_self _)
                · refine gx_aload_n (i := 0) hC dL_minutes_271 rfl rfl (by first | exact Or.inr ⟨_, rfl⟩ | exact Or.inl rfl) ?_
                  refine gx_bipush (v := nI 13) hC dL_minutes_272 bp_13n ?_
                  refine gx_callV1 hC dL_minutes_274 (tt13 hm) kY_X6_tell kV_X6_tell ml_L_9 (by exact h.gs.at0) rfl (by decide) rfl rfl rfl (by first | exact Nat.le_of_ble_eq_true rfl | (simp [Value.category, isR_cat kv_isR, isR_cat aref_isR]; done)) (Nat.le_refl _) (Nat.le_refl _) ?_
                  refine gx_iload hC dL_minutes_277 rfl ?_
                  refine gx_icmp_ne (tgt := 308) hC dL_minutes_279 (by decide) (fun c_279 => ?_) (fun c_279 => ?_)
                  · first | exact absurd (by rfl) c_279 | exact absurd c_279 (by rfl)
                  · refine gx_aload_n (i := 0) hC dL_minutes_282 rfl rfl (by first | exact Or.inr ⟨_, rfl⟩ | exact Or.inl rfl) ?_
                    refine gx_bipush (v := nI 7) hC dL_minutes_283 bp_7n ?_
                    refine gx_callV1 hC dL_minutes_285 (tt7 hm) kY_X6_tell kV_X6_tell ml_L_9 (by exact h.gs.at0) rfl (by decide) rfl rfl rfl (by first | exact Nat.le_of_ble_eq_true rfl | (simp [Value.category, isR_cat kv_isR, isR_cat aref_isR]; done)) (Nat.le_refl _) (Nat.le_refl _) ?_
                    refine gx_iload hC dL_minutes_288 rfl ?_
                    refine gx_icmp_ne (tgt := 308) hC dL_minutes_290 (by decide) (fun c_290 => ?_) (fun c_290 => ?_)
                    · first | exact absurd (by rfl) c_290 | exact absurd c_290 (by rfl)
                    · refine gx_aload_n (i := 0) hC dL_minutes_293 rfl rfl (by first | exact Or.inr ⟨_, rfl⟩ | exact Or.inl rfl) ?_
                      refine gx_bipush (v := nI 8) hC dL_minutes_294 bp_8n ?_
                      refine gx_callV1 hC dL_minutes_296 (tt8 hm) kY_X6_tell kV_X6_tell ml_L_9 (by exact h.gs.at0) rfl (by decide) rfl rfl rfl (by first | exact Nat.le_of_ble_eq_true rfl | (simp [Value.category, isR_cat kv_isR, isR_cat aref_isR]; done)) (Nat.le_refl _) (Nat.le_refl _) ?_
                      refine gx_iload hC dL_minutes_299 rfl ?_
                      refine gx_icmp_ne (tgt := 308) hC dL_minutes_301 (by decide) (fun c_301 => ?_) (fun c_301 => ?_)
                      · first | exact absurd (by rfl) c_301 | exact absurd c_301 (by rfl)
                      · refine gx_iconst (v := nI 1) hC dL_minutes_304 ic_1n ?_
                        refine gx_goto (tgt := 309) hC dL_minutes_305 (by decide) ?_
                        exact gx_zret hC hQ dL_minutes_309 (by first | exact Or.inl rfl | exact Or.inr rfl | exact b2_bit _ | assumption) (rfl) (rfl) rfl
            · have hi : i < m := by have := mt (nI_leI (show m < 2 ^ 31 by omega) (show i < 2 ^ 31 by omega)).mpr c_215; omega
              refine gx_iload hC dL_minutes_218 rfl ?_
              refine gx_if_eq (tgt := 261) hC dL_minutes_220 (by decide) (fun c_220 => ?_) (fun c_220 => ?_)
              · first | exact absurd (by decide) c_220 | exact absurd c_220 (by decide)
              · refine gx_aload_n (i := 0) hC dL_minutes_223 rfl rfl (by first | exact Or.inr ⟨_, rfl⟩ | exact Or.inl rfl) ?_
                refine gx_iconst (v := nI 1) hC dL_minutes_224 ic_1n ?_
                refine gx_callV1 hC dL_minutes_225 (hK i hi) kY_X6_pass kV_X6_pass ml_L_40 (by exact h.gs.at0) rfl (by decide) rfl rfl rfl (by first | exact Nat.le_of_ble_eq_true rfl | (simp [Value.category, isR_cat kv_isR, isR_cat aref_isR]; done)) (Nat.le_refl _) (Nat.le_refl _) ?_
                refine gx_istore (i := 13) (L' := [_, _, _, _, _, _, _, _, _, _, _, _, _, _]) hC dL_minutes_228 (Nat.le_of_ble_eq_true rfl) rfl (fun u h9 => by first | exact Or.inl rfl | (cases h9; done) | (right; cases h9; first | rfl | exact isR_cat aref_isR | exact isR_cat kv_isR)) ?_
                refine gx_iload hC dL_minutes_230 rfl ?_
                refine gx_iload hC dL_minutes_232 rfl ?_
                refine gx_isub hC dL_minutes_234 ?_
                rw [one_s]
                refine gx_istore (i := 8) (L' := [_, _, _, _, _, _, _, _, _, _, _, _, _, _]) hC dL_minutes_235 (Nat.le_of_ble_eq_true rfl) rfl (fun u h9 => by first | exact Or.inl rfl | (cases h9; done) | (right; cases h9; first | rfl | exact isR_cat aref_isR | exact isR_cat kv_isR)) ?_
                refine gx_iload hC dL_minutes_237 rfl ?_
                refine gx_if_lt (tgt := 252) hC dL_minutes_239 (by decide) (fun c_239 => ?_) (fun c_239 => ?_)
                · first | exact absurd (by rcases mGc_1 (v := mGo v lv c i) (lv := lv) (c := c) with e | e <;> (rw [e]; decide)) c_239 | exact absurd c_239 (by rcases mGc_1 (v := mGo v lv c i) (lv := lv) (c := c) with e | e <;> (rw [e]; decide))
                · refine gx_iload hC dL_minutes_242 rfl ?_
                  refine gx_iconst (v := nI 1) hC dL_minutes_244 ic_1n ?_
                  refine gx_icmp_gt (tgt := 252) hC dL_minutes_245 (by decide) (fun c_245 => ?_) (fun c_245 => ?_)
                  · first | exact absurd (by rcases mGc_1 (v := mGo v lv c i) (lv := lv) (c := c) with e | e <;> (rw [e]; decide)) c_245 | exact absurd c_245 (by rcases mGc_1 (v := mGo v lv c i) (lv := lv) (c := c) with e | e <;> (rw [e]; decide))
                  · refine gx_iconst (v := nI 1) hC dL_minutes_248 ic_1n ?_
                    refine gx_goto (tgt := 253) hC dL_minutes_249 (by decide) ?_
                    refine gx_istore (i := 6) (L' := [_, _, _, _, _, _, _, _, _, _, _, _, _, _]) hC dL_minutes_253 (Nat.le_of_ble_eq_true rfl) rfl (fun u h9 => by first | exact Or.inl rfl | (cases h9; done) | (right; cases h9; first | rfl | exact isR_cat aref_isR | exact isR_cat kv_isR)) ?_
                    refine gx_iinc (i := 12) (L' := [_, _, _, _, _, _, _, _, _, _, _, _, _, _]) hC dL_minutes_255 rfl (ii_1 _) (Nat.le_of_ble_eq_true rfl) rfl (fun u h9 => by first | exact Or.inl rfl | (cases h9; done) | (right; cases h9; first | rfl | exact isR_cat aref_isR | exact isR_cat kv_isR)) ?_
                    refine gx_goto (tgt := 212) hC dL_minutes_258 (by decide) ?_
                    exact ih (i + 1) _ (by omega) (by omega)
        have h9 := fun w => loop_212 (m + 1) 0 w (by omega) (by omega)
        rw [show mGc v lv c m - mGc v lv c 0 = mGc v lv c m from Int32.sub_zero _, e0, e1] at h9
        exact h9 _
  have j137 : hG z 215 X 215 M5 R5 137 [some (.ref (z.1 + 0)), some (.int (nI m)), some (.int (nI a)), some (.int (mLm v lv c a)), some (.int (mLf v lv c a)), some (.int (oI (mLx v lv c 600 0 0))), some (.int (nI 1)), some (.int (mCnt v 1 c)), some (.int (mGc v lv c m)), none, none, none, none, none] [] := by
    by_cases hs : mGc v lv c m = 0
    · refine gx_iload hC dL_minutes_137 rfl ?_
      refine gx_if_eq (tgt := 153) hC dL_minutes_139 (by decide) (fun c_139 => ?_) (fun c_139 => ?_)
      · refine gx_iconst (v := nI 1) hC dL_minutes_153 ic_1n ?_
        refine gx_goto (tgt := 158) hC dL_minutes_154 (by decide) ?_
        refine gx_istore (i := 6) (L' := [_, _, _, _, _, _, _, _, _, _, _, _, _, _]) hC dL_minutes_158 (Nat.le_of_ble_eq_true rfl) rfl (fun u h9 => by first | exact Or.inl rfl | (cases h9; done) | (right; cases h9; first | rfl | exact isR_cat aref_isR | exact isR_cat kv_isR)) ?_
        exact j160
      · first | exact absurd (by exact hs) c_139 | exact absurd c_139 (by exact hs)
    · obtain ⟨j1, hj1, ej1, es1⟩ := first_ok h.rl (show m ≤ 600 by omega) hs
      refine gx_iload hC dL_minutes_137 rfl ?_
      refine gx_if_eq (tgt := 153) hC dL_minutes_139 (by decide) (fun c_139 => ?_) (fun c_139 => ?_)
      · first | exact absurd (by exact hs) c_139 | exact absurd c_139 (by exact hs)
      · rw [show oI (mLx v lv c 600 0 0) = nI j1 from by rw [ej1]; rfl]
        refine gx_aload_n (i := 0) hC dL_minutes_142 rfl rfl (by first | exact Or.inr ⟨_, rfl⟩ | exact Or.inl rfl) ?_
        refine gx_iload hC dL_minutes_143 rfl ?_
        refine gx_iconst (v := nI 2) hC dL_minutes_145 ic_2n ?_
        refine gx_callV1 hC dL_minutes_146 (ta2 h5 hj1) kY_X6_aircraft kV_X6_aircraft ml_L_15 (by exact h.gs.at0) rfl (by decide) rfl rfl rfl (by first | exact Nat.le_of_ble_eq_true rfl | (simp [Value.category, isR_cat kv_isR, isR_cat aref_isR]; done)) (Nat.le_refl _) (Nat.le_refl _) ?_
        refine gx_iconst (v := nI 1) hC dL_minutes_149 ic_1n ?_
        refine gx_icmp_ne (tgt := 157) hC dL_minutes_150 (by decide) (fun c_150 => ?_) (fun c_150 => ?_)
        · first | exact absurd (by exact es1) c_150 | exact absurd c_150 (by exact es1)
        · refine gx_iconst (v := nI 1) hC dL_minutes_153 ic_1n ?_
          refine gx_goto (tgt := 158) hC dL_minutes_154 (by decide) ?_
          refine gx_istore (i := 6) (L' := [_, _, _, _, _, _, _, _, _, _, _, _, _, _]) hC dL_minutes_158 (Nat.le_of_ble_eq_true rfl) rfl (fun u h9 => by first | exact Or.inl rfl | (cases h9; done) | (right; cases h9; first | rfl | exact isR_cat aref_isR | exact isR_cat kv_isR)) ?_
          rw [show oI (mLx v lv c 600 0 0) = nI j1 from by rw [ej1]; rfl] at j160
          exact j160
  have j62 : hG z 215 X 215 M4 R 62 [some (.ref (z.1 + 0)), some (.int (nI m)), some (.int (nI a)), some (.int (mLm v lv c a)), some (.int (mLf v lv c a)), some (.int (oI (mLx v lv c 600 0 0))), some (.int (nI 1)), none, none, none, none, none, none, none] [] := by
    rcases fore3 h.rl ha (show m ≤ 600 by omega) with ⟨n, hn6, ea, ⟨u, hu, ef⟩, g1, g2⟩ | ⟨eb, ebf, gb⟩
    · by_cases hnm : n ≤ m
      · refine gx_aload_n (i := 0) hC dL_minutes_62 rfl rfl (by first | exact Or.inr ⟨_, rfl⟩ | exact Or.inl rfl) ?_
        refine gx_iconst (v := nI 5) hC dL_minutes_63 ic_5n ?_
        refine gx_callV1 hC dL_minutes_64 (tt5 h4) kY_X6_tell kV_X6_tell ml_L_9 (by exact h.gs.at0) rfl (by decide) rfl rfl rfl (by first | exact Nat.le_of_ble_eq_true rfl | (simp [Value.category, isR_cat kv_isR, isR_cat aref_isR]; done)) (Nat.le_refl _) (Nat.le_refl _) ?_
        refine gx_istore (i := 7) (L' := [_, _, _, _, _, _, _, _, _, _, _, _, _, _]) hC dL_minutes_67 (Nat.le_of_ble_eq_true rfl) rfl (fun u h9 => by first | exact Or.inl rfl | (cases h9; done) | (right; cases h9; first | rfl | exact isR_cat aref_isR | exact isR_cat kv_isR)) ?_
        refine gx_aload_n (i := 0) hC dL_minutes_69 rfl rfl (by first | exact Or.inr ⟨_, rfl⟩ | exact Or.inl rfl) ?_
        refine gx_iload_n (i := 1) hC dL_minutes_70 rfl rfl ?_
        refine gx_callV1 hC dL_minutes_71 (k5) kY_X6_pass kV_X6_pass ml_L_40 (by exact h.gs.at0) rfl (by decide) rfl rfl rfl (by first | exact Nat.le_of_ble_eq_true rfl | (simp [Value.category, isR_cat kv_isR, isR_cat aref_isR]; done)) (Nat.le_refl _) (Nat.le_refl _) ?_
        refine gx_istore (i := 8) (L' := [_, _, _, _, _, _, _, _, _, _, _, _, _, _]) hC dL_minutes_74 (Nat.le_of_ble_eq_true rfl) rfl (fun u h9 => by first | exact Or.inl rfl | (cases h9; done) | (right; cases h9; first | rfl | exact isR_cat aref_isR | exact isR_cat kv_isR)) ?_
        refine gx_iload hC dL_minutes_76 rfl ?_
        refine gx_if_eq (tgt := 157) hC dL_minutes_78 (by decide) (fun c_78 => ?_) (fun c_78 => ?_)
        · first | exact absurd (by decide) c_78 | exact absurd c_78 (by decide)
        · refine gx_aload_n (i := 0) hC dL_minutes_81 rfl rfl (by first | exact Or.inr ⟨_, rfl⟩ | exact Or.inl rfl) ?_
          refine gx_iconst (v := nI 5) hC dL_minutes_82 ic_5n ?_
          refine gx_callV1 hC dL_minutes_83 (tt5 h5) kY_X6_tell kV_X6_tell ml_L_9 (by exact h.gs.at0) rfl (by decide) rfl rfl rfl (by first | exact Nat.le_of_ble_eq_true rfl | (simp [Value.category, isR_cat kv_isR, isR_cat aref_isR]; done)) (Nat.le_refl _) (Nat.le_refl _) ?_
          refine gx_iload hC dL_minutes_86 rfl ?_
          refine gx_iload hC dL_minutes_88 rfl ?_
          refine gx_iadd hC dL_minutes_90 ?_
          refine gx_icmp_ne (tgt := 157) hC dL_minutes_91 (by decide) (fun c_91 => ?_) (fun c_91 => ?_)
          · first | exact absurd (by exact cnt_go h.rl m) c_91 | exact absurd c_91 (by exact cnt_go h.rl m)
          · refine gx_iload_n (i := 3) hC dL_minutes_94 rfl rfl ?_
            refine gx_if_lt (tgt := 103) hC dL_minutes_95 (by decide) (fun c_95 => ?_) (fun c_95 => ?_)
            · first | exact absurd (by rw [ea]; exact nI_pos (by omega)) c_95 | exact absurd c_95 (by rw [ea]; exact nI_pos (by omega))
            · refine gx_iload_n (i := 3) hC dL_minutes_98 rfl rfl ?_
              refine gx_iload_n (i := 1) hC dL_minutes_99 rfl rfl ?_
              refine gx_icmp_le (tgt := 116) hC dL_minutes_100 (by decide) (fun c_100 => ?_) (fun c_100 => ?_)
              · refine gx_aload_n (i := 0) hC dL_minutes_116 rfl rfl (by first | exact Or.inr ⟨_, rfl⟩ | exact Or.inl rfl) ?_
                refine gx_iload_n (i := 2) hC dL_minutes_117 rfl rfl ?_
                refine gx_iconst (v := nI 2) hC dL_minutes_118 ic_2n ?_
                refine gx_callV1 hC dL_minutes_119 (ta2 h5 ha) kY_X6_aircraft kV_X6_aircraft ml_L_15 (by exact h.gs.at0) rfl (by decide) rfl rfl rfl (by first | exact Nat.le_of_ble_eq_true rfl | (simp [Value.category, isR_cat kv_isR, isR_cat aref_isR]; done)) (Nat.le_refl _) (Nat.le_refl _) ?_
                refine gx_iconst (v := nI 1) hC dL_minutes_122 ic_1n ?_
                refine gx_icmp_ne (tgt := 157) hC dL_minutes_123 (by decide) (fun c_123 => ?_) (fun c_123 => ?_)
                · first | exact absurd (by exact (g1 hnm).1) c_123 | exact absurd c_123 (by exact (g1 hnm).1)
                · refine gx_aload_n (i := 0) hC dL_minutes_126 rfl rfl (by first | exact Or.inr ⟨_, rfl⟩ | exact Or.inl rfl) ?_
                  refine gx_iload_n (i := 2) hC dL_minutes_127 rfl rfl ?_
                  refine gx_iconst (v := nI 1) hC dL_minutes_128 ic_1n ?_
                  refine gx_callV1 hC dL_minutes_129 (ta1 h5 ha) kY_X6_aircraft kV_X6_aircraft ml_L_15 (by exact h.gs.at0) rfl (by decide) rfl rfl rfl (by first | exact Nat.le_of_ble_eq_true rfl | (simp [Value.category, isR_cat kv_isR, isR_cat aref_isR]; done)) (Nat.le_refl _) (Nat.le_refl _) ?_
                  refine gx_iload hC dL_minutes_132 rfl ?_
                  refine gx_icmp_ne (tgt := 157) hC dL_minutes_134 (by decide) (fun c_134 => ?_) (fun c_134 => ?_)
                  · first | exact absurd (by exact (g1 hnm).2) c_134 | exact absurd c_134 (by exact (g1 hnm).2)
                  · exact j137
              · first | exact absurd (by rw [ea]; exact nI_le hnm (by omega)) c_100 | exact absurd c_100 (by rw [ea]; exact nI_le hnm (by omega))
      · refine gx_aload_n (i := 0) hC dL_minutes_62 rfl rfl (by first | exact Or.inr ⟨_, rfl⟩ | exact Or.inl rfl) ?_
        refine gx_iconst (v := nI 5) hC dL_minutes_63 ic_5n ?_
        refine gx_callV1 hC dL_minutes_64 (tt5 h4) kY_X6_tell kV_X6_tell ml_L_9 (by exact h.gs.at0) rfl (by decide) rfl rfl rfl (by first | exact Nat.le_of_ble_eq_true rfl | (simp [Value.category, isR_cat kv_isR, isR_cat aref_isR]; done)) (Nat.le_refl _) (Nat.le_refl _) ?_
        refine gx_istore (i := 7) (L' := [_, _, _, _, _, _, _, _, _, _, _, _, _, _]) hC dL_minutes_67 (Nat.le_of_ble_eq_true rfl) rfl (fun u h9 => by first | exact Or.inl rfl | (cases h9; done) | (right; cases h9; first | rfl | exact isR_cat aref_isR | exact isR_cat kv_isR)) ?_
        refine gx_aload_n (i := 0) hC dL_minutes_69 rfl rfl (by first | exact Or.inr ⟨_, rfl⟩ | exact Or.inl rfl) ?_
        refine gx_iload_n (i := 1) hC dL_minutes_70 rfl rfl ?_
        refine gx_callV1 hC dL_minutes_71 (k5) kY_X6_pass kV_X6_pass ml_L_40 (by exact h.gs.at0) rfl (by decide) rfl rfl rfl (by first | exact Nat.le_of_ble_eq_true rfl | (simp [Value.category, isR_cat kv_isR, isR_cat aref_isR]; done)) (Nat.le_refl _) (Nat.le_refl _) ?_
        refine gx_istore (i := 8) (L' := [_, _, _, _, _, _, _, _, _, _, _, _, _, _]) hC dL_minutes_74 (Nat.le_of_ble_eq_true rfl) rfl (fun u h9 => by first | exact Or.inl rfl | (cases h9; done) | (right; cases h9; first | rfl | exact isR_cat aref_isR | exact isR_cat kv_isR)) ?_
        refine gx_iload hC dL_minutes_76 rfl ?_
        refine gx_if_eq (tgt := 157) hC dL_minutes_78 (by decide) (fun c_78 => ?_) (fun c_78 => ?_)
        · first | exact absurd (by decide) c_78 | exact absurd c_78 (by decide)
        · refine gx_aload_n (i := 0) hC dL_minutes_81 rfl rfl (by first | exact Or.inr ⟨_, rfl⟩ | exact Or.inl rfl) ?_
          refine gx_iconst (v := nI 5) hC dL_minutes_82 ic_5n ?_
          refine gx_callV1 hC dL_minutes_83 (tt5 h5) kY_X6_tell kV_X6_tell ml_L_9 (by exact h.gs.at0) rfl (by decide) rfl rfl rfl (by first | exact Nat.le_of_ble_eq_true rfl | (simp [Value.category, isR_cat kv_isR, isR_cat aref_isR]; done)) (Nat.le_refl _) (Nat.le_refl _) ?_
          refine gx_iload hC dL_minutes_86 rfl ?_
          refine gx_iload hC dL_minutes_88 rfl ?_
          refine gx_iadd hC dL_minutes_90 ?_
          refine gx_icmp_ne (tgt := 157) hC dL_minutes_91 (by decide) (fun c_91 => ?_) (fun c_91 => ?_)
          · first | exact absurd (by exact cnt_go h.rl m) c_91 | exact absurd c_91 (by exact cnt_go h.rl m)
          · refine gx_iload_n (i := 3) hC dL_minutes_94 rfl rfl ?_
            refine gx_if_lt (tgt := 103) hC dL_minutes_95 (by decide) (fun c_95 => ?_) (fun c_95 => ?_)
            · first | exact absurd (by rw [ea]; exact nI_pos (by omega)) c_95 | exact absurd c_95 (by rw [ea]; exact nI_pos (by omega))
            · refine gx_iload_n (i := 3) hC dL_minutes_98 rfl rfl ?_
              refine gx_iload_n (i := 1) hC dL_minutes_99 rfl rfl ?_
              refine gx_icmp_le (tgt := 116) hC dL_minutes_100 (by decide) (fun c_100 => ?_) (fun c_100 => ?_)
              · first | exact absurd (by rw [ea]; exact nI_ge (by omega) (by omega)) c_100 | exact absurd c_100 (by rw [ea]; exact nI_ge (by omega) (by omega))
              · refine gx_aload_n (i := 0) hC dL_minutes_103 rfl rfl (by first | exact Or.inr ⟨_, rfl⟩ | exact Or.inl rfl) ?_
                refine gx_iload_n (i := 2) hC dL_minutes_104 rfl rfl ?_
                refine gx_iconst (v := nI 2) hC dL_minutes_105 ic_2n ?_
                refine gx_callV1 hC dL_minutes_106 (ta2 h5 ha) kY_X6_aircraft kV_X6_aircraft ml_L_15 (by exact h.gs.at0) rfl (by decide) rfl rfl rfl (by first | exact Nat.le_of_ble_eq_true rfl | (simp [Value.category, isR_cat kv_isR, isR_cat aref_isR]; done)) (Nat.le_refl _) (Nat.le_refl _) ?_
                refine gx_iconst (v := nI 1) hC dL_minutes_109 ic_1n ?_
                refine gx_icmp_eq (tgt := 157) hC dL_minutes_110 (by decide) (fun c_110 => ?_) (fun c_110 => ?_)
                · first | exact absurd (by exact g2 (by omega)) c_110 | exact absurd c_110 (by exact g2 (by omega))
                · refine gx_goto (tgt := 137) hC dL_minutes_113 (by decide) ?_
                  exact j137
    · refine gx_aload_n (i := 0) hC dL_minutes_62 rfl rfl (by first | exact Or.inr ⟨_, rfl⟩ | exact Or.inl rfl) ?_
      refine gx_iconst (v := nI 5) hC dL_minutes_63 ic_5n ?_
      refine gx_callV1 hC dL_minutes_64 (tt5 h4) kY_X6_tell kV_X6_tell ml_L_9 (by exact h.gs.at0) rfl (by decide) rfl rfl rfl (by first | exact Nat.le_of_ble_eq_true rfl | (simp [Value.category, isR_cat kv_isR, isR_cat aref_isR]; done)) (Nat.le_refl _) (Nat.le_refl _) ?_
      refine gx_istore (i := 7) (L' := [_, _, _, _, _, _, _, _, _, _, _, _, _, _]) hC dL_minutes_67 (Nat.le_of_ble_eq_true rfl) rfl (fun u h9 => by first | exact Or.inl rfl | (cases h9; done) | (right; cases h9; first | rfl | exact isR_cat aref_isR | exact isR_cat kv_isR)) ?_
      refine gx_aload_n (i := 0) hC dL_minutes_69 rfl rfl (by first | exact Or.inr ⟨_, rfl⟩ | exact Or.inl rfl) ?_
      refine gx_iload_n (i := 1) hC dL_minutes_70 rfl rfl ?_
      refine gx_callV1 hC dL_minutes_71 (k5) kY_X6_pass kV_X6_pass ml_L_40 (by exact h.gs.at0) rfl (by decide) rfl rfl rfl (by first | exact Nat.le_of_ble_eq_true rfl | (simp [Value.category, isR_cat kv_isR, isR_cat aref_isR]; done)) (Nat.le_refl _) (Nat.le_refl _) ?_
      refine gx_istore (i := 8) (L' := [_, _, _, _, _, _, _, _, _, _, _, _, _, _]) hC dL_minutes_74 (Nat.le_of_ble_eq_true rfl) rfl (fun u h9 => by first | exact Or.inl rfl | (cases h9; done) | (right; cases h9; first | rfl | exact isR_cat aref_isR | exact isR_cat kv_isR)) ?_
      refine gx_iload hC dL_minutes_76 rfl ?_
      refine gx_if_eq (tgt := 157) hC dL_minutes_78 (by decide) (fun c_78 => ?_) (fun c_78 => ?_)
      · first | exact absurd (by decide) c_78 | exact absurd c_78 (by decide)
      · refine gx_aload_n (i := 0) hC dL_minutes_81 rfl rfl (by first | exact Or.inr ⟨_, rfl⟩ | exact Or.inl rfl) ?_
        refine gx_iconst (v := nI 5) hC dL_minutes_82 ic_5n ?_
        refine gx_callV1 hC dL_minutes_83 (tt5 h5) kY_X6_tell kV_X6_tell ml_L_9 (by exact h.gs.at0) rfl (by decide) rfl rfl rfl (by first | exact Nat.le_of_ble_eq_true rfl | (simp [Value.category, isR_cat kv_isR, isR_cat aref_isR]; done)) (Nat.le_refl _) (Nat.le_refl _) ?_
        refine gx_iload hC dL_minutes_86 rfl ?_
        refine gx_iload hC dL_minutes_88 rfl ?_
        refine gx_iadd hC dL_minutes_90 ?_
        refine gx_icmp_ne (tgt := 157) hC dL_minutes_91 (by decide) (fun c_91 => ?_) (fun c_91 => ?_)
        · first | exact absurd (by exact cnt_go h.rl m) c_91 | exact absurd c_91 (by exact cnt_go h.rl m)
        · refine gx_iload_n (i := 3) hC dL_minutes_94 rfl rfl ?_
          refine gx_if_lt (tgt := 103) hC dL_minutes_95 (by decide) (fun c_95 => ?_) (fun c_95 => ?_)
          · refine gx_aload_n (i := 0) hC dL_minutes_103 rfl rfl (by first | exact Or.inr ⟨_, rfl⟩ | exact Or.inl rfl) ?_
            refine gx_iload_n (i := 2) hC dL_minutes_104 rfl rfl ?_
            refine gx_iconst (v := nI 2) hC dL_minutes_105 ic_2n ?_
            refine gx_callV1 hC dL_minutes_106 (ta2 h5 ha) kY_X6_aircraft kV_X6_aircraft ml_L_15 (by exact h.gs.at0) rfl (by decide) rfl rfl rfl (by first | exact Nat.le_of_ble_eq_true rfl | (simp [Value.category, isR_cat kv_isR, isR_cat aref_isR]; done)) (Nat.le_refl _) (Nat.le_refl _) ?_
            refine gx_iconst (v := nI 1) hC dL_minutes_109 ic_1n ?_
            refine gx_icmp_eq (tgt := 157) hC dL_minutes_110 (by decide) (fun c_110 => ?_) (fun c_110 => ?_)
            · first | exact absurd (by exact gb) c_110 | exact absurd c_110 (by exact gb)
            · refine gx_goto (tgt := 137) hC dL_minutes_113 (by decide) ?_
              exact j137
          · first | exact absurd (by rw [eb]; decide) c_95 | exact absurd c_95 (by rw [eb]; decide)
  rcases fore3 h.rl ha (show m ≤ 600 by omega) with ⟨n, hn6, ea, ⟨u, hu, ef⟩, g1, g2⟩ | ⟨eb, ebf, gb⟩
  · refine gx_aload_n (i := 0) hC dL_minutes_0 rfl rfl (by first | exact Or.inr ⟨_, rfl⟩ | exact Or.inl rfl) ?_
    refine gx_iload_n (i := 2) hC dL_minutes_1 rfl rfl ?_
    refine gx_callV1 hC dL_minutes_2 (k1) kY_X6_minutesLeft kV_X6_minutesLeft ml_L_28 (by exact h.gs.at0) rfl (by decide) rfl rfl rfl (by first | exact Nat.le_of_ble_eq_true rfl | (simp [Value.category, isR_cat kv_isR, isR_cat aref_isR]; done)) (Nat.le_refl _) (Nat.le_refl _) ?_
    refine gx_istore_n (i := 3) (L' := [_, _, _, _, _, _, _, _, _, _, _, _, _, _]) hC dL_minutes_5 rfl (Nat.le_of_ble_eq_true rfl) rfl (fun u h9 => by first | exact Or.inl rfl | (cases h9; done) | (right; cases h9; first | rfl | exact isR_cat aref_isR | exact isR_cat kv_isR)) ?_
    refine gx_aload_n (i := 0) hC dL_minutes_6 rfl rfl (by first | exact Or.inr ⟨_, rfl⟩ | exact Or.inl rfl) ?_
    refine gx_iload_n (i := 2) hC dL_minutes_7 rfl rfl ?_
    refine gx_callV1 hC dL_minutes_8 (k2) kY_X6_landsWith kV_X6_landsWith ml_L_31 (by exact h.gs.at0) rfl (by decide) rfl rfl rfl (by first | exact Nat.le_of_ble_eq_true rfl | (simp [Value.category, isR_cat kv_isR, isR_cat aref_isR]; done)) (Nat.le_refl _) (Nat.le_refl _) ?_
    refine gx_istore (i := 4) (L' := [_, _, _, _, _, _, _, _, _, _, _, _, _, _]) hC dL_minutes_11 (Nat.le_of_ble_eq_true rfl) rfl (fun u h9 => by first | exact Or.inl rfl | (cases h9; done) | (right; cases h9; first | rfl | exact isR_cat aref_isR | exact isR_cat kv_isR)) ?_
    refine gx_aload_n (i := 0) hC dL_minutes_13 rfl rfl (by first | exact Or.inr ⟨_, rfl⟩ | exact Or.inl rfl) ?_
    refine gx_iconst (v := nI 0) hC dL_minutes_14 ic_0n ?_
    refine gx_callV1 hC dL_minutes_15 (k3) kY_X6_lands kV_X6_lands ml_L_34 (by exact h.gs.at0) rfl (by decide) rfl rfl rfl (by first | exact Nat.le_of_ble_eq_true rfl | (simp [Value.category, isR_cat kv_isR, isR_cat aref_isR]; done)) (Nat.le_refl _) (Nat.le_refl _) ?_
    refine gx_istore (i := 5) (L' := [_, _, _, _, _, _, _, _, _, _, _, _, _, _]) hC dL_minutes_18 (Nat.le_of_ble_eq_true rfl) rfl (fun u h9 => by first | exact Or.inl rfl | (cases h9; done) | (right; cases h9; first | rfl | exact isR_cat aref_isR | exact isR_cat kv_isR)) ?_
    refine gx_aload_n (i := 0) hC dL_minutes_20 rfl rfl (by first | exact Or.inr ⟨_, rfl⟩ | exact Or.inl rfl) ?_
    refine gx_iconst (v := nI 0) hC dL_minutes_21 ic_0n ?_
    refine gx_callV1 hC dL_minutes_22 (k4) kY_X6_keep kV_X6_keep ml_L_37 (by exact h.gs.at0) rfl (by decide) rfl rfl rfl (by first | exact Nat.le_of_ble_eq_true rfl | (simp [Value.category, isR_cat kv_isR, isR_cat aref_isR]; done)) (Nat.le_refl _) (Nat.le_refl _) ?_
    refine gx_aload_n (i := 0) hC dL_minutes_25 rfl rfl (by first | exact Or.inr ⟨_, rfl⟩ | exact Or.inl rfl) ?_
    refine gx_iconst (v := nI 0) hC dL_minutes_26 ic_0n ?_
    refine gx_callV1 hC dL_minutes_27 (tt0 h4) kY_X6_tell kV_X6_tell ml_L_9 (by exact h.gs.at0) rfl (by decide) rfl rfl rfl (by first | exact Nat.le_of_ble_eq_true rfl | (simp [Value.category, isR_cat kv_isR, isR_cat aref_isR]; done)) (Nat.le_refl _) (Nat.le_refl _) ?_
    refine gx_icmp_ne (tgt := 59) hC dL_minutes_30 (by decide) (fun c_30 => ?_) (fun c_30 => ?_)
    · first | exact absurd (by rfl) c_30 | exact absurd c_30 (by rfl)
    · refine gx_iload_n (i := 3) hC dL_minutes_33 rfl rfl ?_
      refine gx_if_lt (tgt := 41) hC dL_minutes_34 (by decide) (fun c_34 => ?_) (fun c_34 => ?_)
      · first | exact absurd (by rw [ea]; exact nI_pos (by omega)) c_34 | exact absurd c_34 (by rw [ea]; exact nI_pos (by omega))
      · refine gx_iconst (v := nI 1) hC dL_minutes_37 ic_1n ?_
        refine gx_goto (tgt := 42) hC dL_minutes_38 (by decide) ?_
        refine gx_iload hC dL_minutes_42 rfl ?_
        refine gx_if_lt (tgt := 51) hC dL_minutes_44 (by decide) (fun c_44 => ?_) (fun c_44 => ?_)
        · first | exact absurd (by rw [ef]; exact nI_pos (by omega)) c_44 | exact absurd c_44 (by rw [ef]; exact nI_pos (by omega))
        · refine gx_iconst (v := nI 1) hC dL_minutes_47 ic_1n ?_
          refine gx_goto (tgt := 52) hC dL_minutes_48 (by decide) ?_
          refine gx_icmp_ne (tgt := 59) hC dL_minutes_52 (by decide) (fun c_52 => ?_) (fun c_52 => ?_)
          · first | exact absurd (by rfl) c_52 | exact absurd c_52 (by rfl)
          · refine gx_iconst (v := nI 1) hC dL_minutes_55 ic_1n ?_
            refine gx_goto (tgt := 60) hC dL_minutes_56 (by decide) ?_
            refine gx_istore (i := 6) (L' := [_, _, _, _, _, _, _, _, _, _, _, _, _, _]) hC dL_minutes_60 (Nat.le_of_ble_eq_true rfl) rfl (fun u h9 => by first | exact Or.inl rfl | (cases h9; done) | (right; cases h9; first | rfl | exact isR_cat aref_isR | exact isR_cat kv_isR)) ?_
            exact j62
  · refine gx_aload_n (i := 0) hC dL_minutes_0 rfl rfl (by first | exact Or.inr ⟨_, rfl⟩ | exact Or.inl rfl) ?_
    refine gx_iload_n (i := 2) hC dL_minutes_1 rfl rfl ?_
    refine gx_callV1 hC dL_minutes_2 (k1) kY_X6_minutesLeft kV_X6_minutesLeft ml_L_28 (by exact h.gs.at0) rfl (by decide) rfl rfl rfl (by first | exact Nat.le_of_ble_eq_true rfl | (simp [Value.category, isR_cat kv_isR, isR_cat aref_isR]; done)) (Nat.le_refl _) (Nat.le_refl _) ?_
    refine gx_istore_n (i := 3) (L' := [_, _, _, _, _, _, _, _, _, _, _, _, _, _]) hC dL_minutes_5 rfl (Nat.le_of_ble_eq_true rfl) rfl (fun u h9 => by first | exact Or.inl rfl | (cases h9; done) | (right; cases h9; first | rfl | exact isR_cat aref_isR | exact isR_cat kv_isR)) ?_
    refine gx_aload_n (i := 0) hC dL_minutes_6 rfl rfl (by first | exact Or.inr ⟨_, rfl⟩ | exact Or.inl rfl) ?_
    refine gx_iload_n (i := 2) hC dL_minutes_7 rfl rfl ?_
    refine gx_callV1 hC dL_minutes_8 (k2) kY_X6_landsWith kV_X6_landsWith ml_L_31 (by exact h.gs.at0) rfl (by decide) rfl rfl rfl (by first | exact Nat.le_of_ble_eq_true rfl | (simp [Value.category, isR_cat kv_isR, isR_cat aref_isR]; done)) (Nat.le_refl _) (Nat.le_refl _) ?_
    refine gx_istore (i := 4) (L' := [_, _, _, _, _, _, _, _, _, _, _, _, _, _]) hC dL_minutes_11 (Nat.le_of_ble_eq_true rfl) rfl (fun u h9 => by first | exact Or.inl rfl | (cases h9; done) | (right; cases h9; first | rfl | exact isR_cat aref_isR | exact isR_cat kv_isR)) ?_
    refine gx_aload_n (i := 0) hC dL_minutes_13 rfl rfl (by first | exact Or.inr ⟨_, rfl⟩ | exact Or.inl rfl) ?_
    refine gx_iconst (v := nI 0) hC dL_minutes_14 ic_0n ?_
    refine gx_callV1 hC dL_minutes_15 (k3) kY_X6_lands kV_X6_lands ml_L_34 (by exact h.gs.at0) rfl (by decide) rfl rfl rfl (by first | exact Nat.le_of_ble_eq_true rfl | (simp [Value.category, isR_cat kv_isR, isR_cat aref_isR]; done)) (Nat.le_refl _) (Nat.le_refl _) ?_
    refine gx_istore (i := 5) (L' := [_, _, _, _, _, _, _, _, _, _, _, _, _, _]) hC dL_minutes_18 (Nat.le_of_ble_eq_true rfl) rfl (fun u h9 => by first | exact Or.inl rfl | (cases h9; done) | (right; cases h9; first | rfl | exact isR_cat aref_isR | exact isR_cat kv_isR)) ?_
    refine gx_aload_n (i := 0) hC dL_minutes_20 rfl rfl (by first | exact Or.inr ⟨_, rfl⟩ | exact Or.inl rfl) ?_
    refine gx_iconst (v := nI 0) hC dL_minutes_21 ic_0n ?_
    refine gx_callV1 hC dL_minutes_22 (k4) kY_X6_keep kV_X6_keep ml_L_37 (by exact h.gs.at0) rfl (by decide) rfl rfl rfl (by first | exact Nat.le_of_ble_eq_true rfl | (simp [Value.category, isR_cat kv_isR, isR_cat aref_isR]; done)) (Nat.le_refl _) (Nat.le_refl _) ?_
    refine gx_aload_n (i := 0) hC dL_minutes_25 rfl rfl (by first | exact Or.inr ⟨_, rfl⟩ | exact Or.inl rfl) ?_
    refine gx_iconst (v := nI 0) hC dL_minutes_26 ic_0n ?_
    refine gx_callV1 hC dL_minutes_27 (tt0 h4) kY_X6_tell kV_X6_tell ml_L_9 (by exact h.gs.at0) rfl (by decide) rfl rfl rfl (by first | exact Nat.le_of_ble_eq_true rfl | (simp [Value.category, isR_cat kv_isR, isR_cat aref_isR]; done)) (Nat.le_refl _) (Nat.le_refl _) ?_
    refine gx_icmp_ne (tgt := 59) hC dL_minutes_30 (by decide) (fun c_30 => ?_) (fun c_30 => ?_)
    · first | exact absurd (by rfl) c_30 | exact absurd c_30 (by rfl)
    · refine gx_iload_n (i := 3) hC dL_minutes_33 rfl rfl ?_
      refine gx_if_lt (tgt := 41) hC dL_minutes_34 (by decide) (fun c_34 => ?_) (fun c_34 => ?_)
      · refine gx_iconst (v := nI 0) hC dL_minutes_41 ic_0n ?_
        refine gx_iload hC dL_minutes_42 rfl ?_
        refine gx_if_lt (tgt := 51) hC dL_minutes_44 (by decide) (fun c_44 => ?_) (fun c_44 => ?_)
        · refine gx_iconst (v := nI 0) hC dL_minutes_51 ic_0n ?_
          refine gx_icmp_ne (tgt := 59) hC dL_minutes_52 (by decide) (fun c_52 => ?_) (fun c_52 => ?_)
          · first | exact absurd (by rfl) c_52 | exact absurd c_52 (by rfl)
          · refine gx_iconst (v := nI 1) hC dL_minutes_55 ic_1n ?_
            refine gx_goto (tgt := 60) hC dL_minutes_56 (by decide) ?_
            refine gx_istore (i := 6) (L' := [_, _, _, _, _, _, _, _, _, _, _, _, _, _]) hC dL_minutes_60 (Nat.le_of_ble_eq_true rfl) rfl (fun u h9 => by first | exact Or.inl rfl | (cases h9; done) | (right; cases h9; first | rfl | exact isR_cat aref_isR | exact isR_cat kv_isR)) ?_
            exact j62
        · first | exact absurd (by rw [ebf]; decide) c_44 | exact absurd c_44 (by rw [ebf]; decide)
      · first | exact absurd (by rw [eb]; decide) c_34 | exact absurd c_34 (by rw [eb]; decide)
