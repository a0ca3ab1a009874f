/-! the law: what is refused -/
section RF
variable {l : Launch} {z : hZt} {M : hMem} {R : hRef} {v : gRow} {lv c q : Nat} {H : Nat → gRow} {K : Nat → Option gRow}
theorem t_enterx (h : PI M R v lv c q H K) {x fu y e : Int32} (he : mEw v x fu y = e) (hn : e < 0) : hCt l z m_X6_enter [.ref (z.1 + 0), .int x, .int fu, .int y] 215 M R 215 (some (.int e)) M R := by
  have hw := (h.rl.ew (x := x) (fu := fu) (y := y)).1 (by rw [he]; exact hn)
  rw [he] at hw
  have k := c0_X6_enter l z h.gs h.sw (kd := x) (fuel := fu) (lev := y) (by rw [hw]; intro e2; have e2 : e = 0 := e2; rw [e2] at hn; exact absurd hn (by decide))
  rw [hw] at k
  exact k
theorem t_callx (h : PI M R v lv c q H K) : hCt l z m_X6_call [.ref (z.1 + 0), .int (nI c)] 215 M R 215 (some (.int (-1))) M R := by
  have e1 : cCl M (nI c) = -1 := by unfold cCl; rw [sNum_c h.sw]
  have n0 : ¬ cCl M (nI c) = 0 := by rw [e1]; decide
  have k := c0_X6_call l z h.gs n0
  rw [e1] at k
  exact k
theorem sNum_m {f : hMem} : sNum f (-1) = none := by
  unfold sNum
  rw [if_neg (fun e => absurd e.1 (by decide))]
theorem t_best1 (h : PI M R v lv c q H K) : hCt l z m_X6_bestLevel [.ref (z.1 + 0), .int (-1), .int (nI 5)] 215 M R 215 (some (.int (-1))) M R := by
  have hb : bK (-1) = false := by decide
  have k := c0_X6_bestLevel l z (M := M) h.gs (kd := -1) (fuel := nI 5) (Or.inl hb)
  rw [show blE (getS M 1) (-1) (nI 5) = -1 from if_pos hb] at k
  exact k
theorem t_best2 (h : PI M R v lv c q H K) : hCt l z m_X6_bestLevel [.ref (z.1 + 0), .int (nI 0), .int (nI 0)] 215 M R 215 (some (.int (-2))) M R := by
  have hb : bFuel (nI 0) = false := by decide
  have hk0 : ¬ bK (nI 0) = false := by decide
  have k := c0_X6_bestLevel l z (M := M) h.gs (kd := nI 0) (fuel := nI 0) (Or.inr (Or.inl hb))
  rw [show blE (getS M 1) (nI 0) (nI 0) = -2 from by unfold blE; rw [if_neg hk0, if_pos hb]] at k
  exact k
theorem mEw_3 {fu y : Int32} : mEw v (nI 3) fu y = -1 := if_pos (Or.inl (by decide))
theorem mEw_l (h : PI M R v lv c q H K) {x fu : Int32} : mEw v x fu (nI lv) = -1 := if_pos (Or.inr ((Bool.not_eq_true _).mp (fun e => by
  have l16 := h.sw.l16
  obtain ⟨i, hi, e2⟩ := (mLv_n h.rl.wv.mw).mp e
  have := nI_jj (by omega) (by omega) e2
  omega)))
theorem mEw_b (h : PI M R v lv c q H K) {fu : Int32} (hf : bIn fu 1 9999 = false) : mEw v (nI 0) fu (nI 0) = -2 := by
  have l4 := h.rl.wv.l4
  unfold mEw
  rw [if_neg, if_pos hf]
  rintro (e | e)
  · exact absurd e (by decide)
  · rw [(mLv_n h.rl.wv.mw).mpr ⟨0, by omega, rfl⟩] at e; cases e
end RF
set_option maxHeartbeats 4000000 in
set_option maxRecDepth 20000 in
theorem u_refuses (l : Launch) (z : hZt) {M : hMem} {R : hRef} {v : gRow} {lv c q : Nat} {H : Nat → gRow} {K : Nat → Option gRow} (h : PI M R v lv c q H K) : ∃ M9, hCt l z m_L_refuses [.ref (z.1 + 0)] 215 M R 215 (some (.int 1)) M9 R ∧ PI M9 R v lv c q H K := by
  obtain ⟨M1, k1, h1⟩ := t_ck (l := l) (z := z) h
  obtain ⟨M2, k2, h2⟩ := t_ck (l := l) (z := z) h1
  refine ⟨M2, ?_, h2⟩
  refine hs_start [some (.ref (z.1 + 0)), none, none, none, none, none] (by decide +kernel) rfl (by intro u hu; simp at hu; subst hu <;> first | rfl | exact isR_cat kv_isR | exact isR_cat aref_isR) (Nat.le_of_ble_eq_true rfl) (Nat.le_refl _) (fun X hlX hN hC hQ => ?_)
  dsimp only at hC hQ
  subst hlX
  refine gx_aload_n (i := 0) hC dL_refuses_0 rfl rfl (by first | exact Or.inr ⟨_, rfl⟩ | exact Or.inl rfl) ?_
  refine gx_callV1 hC dL_refuses_1 (k1) kY_X6_checksum kV_X6_checksum ml_L_76 (by exact h.gs.at0) rfl (by decide) rfl rfl rfl (by first | exact Nat.le_of_ble_eq_true rfl | (simp [Value.category, isR_cat kv_isR, isR_cat aref_isR]; done)) (Nat.le_refl _) (Nat.le_refl _) ?_
  refine gx_lstore_n (i := 1) (L' := [_, _, _, _, _, _]) hC dL_refuses_4 rfl (Nat.le_of_ble_eq_true rfl) rfl (fun u h9 => by first | exact Or.inl rfl | (cases h9; done) | (right; cases h9; first | rfl | exact isR_cat aref_isR | exact isR_cat kv_isR)) ?_
  refine gx_aload_n (i := 0) hC dL_refuses_5 rfl rfl (by first | exact Or.inr ⟨_, rfl⟩ | exact Or.inl rfl) ?_
  refine gx_iconst (v := nI 1) hC dL_refuses_6 ic_1n ?_
  refine gx_callV1 hC dL_refuses_7 (tt1 h1) kY_X6_tell kV_X6_tell ml_L_9 (by exact h.gs.at0) rfl (by decide) rfl rfl rfl (by first | exact Nat.le_of_ble_eq_true rfl | (simp [Value.category, isR_cat kv_isR, isR_cat aref_isR]; done)) (Nat.le_refl _) (Nat.le_refl _) ?_
  refine gx_istore_n (i := 3) (L' := [_, _, _, _, _, _]) hC dL_refuses_10 rfl (Nat.le_of_ble_eq_true rfl) rfl (fun u h9 => by first | exact Or.inl rfl | (cases h9; done) | (right; cases h9; first | rfl | exact isR_cat aref_isR | exact isR_cat kv_isR)) ?_
  refine gx_aload_n (i := 0) hC dL_refuses_11 rfl rfl (by first | exact Or.inr ⟨_, rfl⟩ | exact Or.inl rfl) ?_
  refine gx_iconst (v := nI 3) hC dL_refuses_12 ic_3n ?_
  refine gx_callV1 hC dL_refuses_13 (tt3 h1) kY_X6_tell kV_X6_tell ml_L_9 (by exact h.gs.at0) rfl (by decide) rfl rfl rfl (by first | exact Nat.le_of_ble_eq_true rfl | (simp [Value.category, isR_cat kv_isR, isR_cat aref_isR]; done)) (Nat.le_refl _) (Nat.le_refl _) ?_
  refine gx_istore (i := 4) (L' := [_, _, _, _, _, _]) hC dL_refuses_16 (Nat.le_of_ble_eq_true rfl) rfl (fun u h9 => by first | exact Or.inl rfl | (cases h9; done) | (right; cases h9; first | rfl | exact isR_cat aref_isR | exact isR_cat kv_isR)) ?_
  refine gx_aload_n (i := 0) hC dL_refuses_18 rfl rfl (by first | exact Or.inr ⟨_, rfl⟩ | exact Or.inl rfl) ?_
  refine gx_iconst (v := nI 3) hC dL_refuses_19 ic_3n ?_
  refine gx_callV1 hC dL_refuses_20 (c0_X6_begin _ _ h1.gs (x := nI 3) (Or.inl (by decide))) kY_X6_begin kV_X6_begin ml_L_80 (by exact h.gs.at0) rfl (by decide) rfl rfl rfl (by first | exact Nat.le_of_ble_eq_true rfl | (simp [Value.category, isR_cat kv_isR, isR_cat aref_isR]; done)) (Nat.le_refl _) (Nat.le_refl _) ?_
  refine gx_bipush (v := -2) hC dL_refuses_23 bp_m2 ?_
  refine gx_icmp_ne (tgt := 135) hC dL_refuses_25 (by decide) (fun c_25 => ?_) (fun c_25 => ?_)
  · first | exact absurd (by rfl) c_25 | exact absurd c_25 (by rfl)
  · refine gx_aload_n (i := 0) hC dL_refuses_28 rfl rfl (by first | exact Or.inr ⟨_, rfl⟩ | exact Or.inl rfl) ?_
    refine gx_bipush (v := nI 17) hC dL_refuses_29 bp_17n ?_
    refine gx_callV1 hC dL_refuses_31 (c0_X6_begin _ _ h1.gs (x := nI 17) (Or.inr (by decide))) kY_X6_begin kV_X6_begin ml_L_80 (by exact h.gs.at0) rfl (by decide) rfl rfl rfl (by first | exact Nat.le_of_ble_eq_true rfl | (simp [Value.category, isR_cat kv_isR, isR_cat aref_isR]; done)) (Nat.le_refl _) (Nat.le_refl _) ?_
    refine gx_bipush (v := -2) hC dL_refuses_34 bp_m2 ?_
    refine gx_icmp_ne (tgt := 135) hC dL_refuses_36 (by decide) (fun c_36 => ?_) (fun c_36 => ?_)
    · first | exact absurd (by rfl) c_36 | exact absurd c_36 (by rfl)
    · refine gx_aload_n (i := 0) hC dL_refuses_39 rfl rfl (by first | exact Or.inr ⟨_, rfl⟩ | exact Or.inl rfl) ?_
      refine gx_iconst (v := nI 1) hC dL_refuses_40 ic_1n ?_
      refine gx_callV1 hC dL_refuses_41 (c0_X6_setLap _ _ h1.gs (x := nI 1) (Or.inl (by decide))) kY_X6_setLap kV_X6_setLap ml_L_83 (by exact h.gs.at0) rfl (by decide) rfl rfl rfl (by first | exact Nat.le_of_ble_eq_true rfl | (simp [Value.category, isR_cat kv_isR, isR_cat aref_isR]; done)) (Nat.le_refl _) (Nat.le_refl _) ?_
      refine gx_bipush (v := -2) hC dL_refuses_44 bp_m2 ?_
      refine gx_icmp_ne (tgt := 135) hC dL_refuses_46 (by decide) (fun c_46 => ?_) (fun c_46 => ?_)
      · first | exact absurd (by rfl) c_46 | exact absurd c_46 (by rfl)
      · refine gx_aload_n (i := 0) hC dL_refuses_49 rfl rfl (by first | exact Or.inr ⟨_, rfl⟩ | exact Or.inl rfl) ?_
        refine gx_bipush (v := nI 9) hC dL_refuses_50 bp_9n ?_
        refine gx_callV1 hC dL_refuses_52 (c0_X6_setLap _ _ h1.gs (x := nI 9) (Or.inr (by decide))) kY_X6_setLap kV_X6_setLap ml_L_83 (by exact h.gs.at0) rfl (by decide) rfl rfl rfl (by first | exact Nat.le_of_ble_eq_true rfl | (simp [Value.category, isR_cat kv_isR, isR_cat aref_isR]; done)) (Nat.le_refl _) (Nat.le_refl _) ?_
        refine gx_bipush (v := -2) hC dL_refuses_55 bp_m2 ?_
        refine gx_icmp_ne (tgt := 135) hC dL_refuses_57 (by decide) (fun c_57 => ?_) (fun c_57 => ?_)
        · first | exact absurd (by rfl) c_57 | exact absurd c_57 (by rfl)
        · refine gx_aload_n (i := 0) hC dL_refuses_60 rfl rfl (by first | exact Or.inr ⟨_, rfl⟩ | exact Or.inl rfl) ?_
          refine gx_iconst (v := nI 0) hC dL_refuses_61 ic_0n ?_
          refine gx_callV1 hC dL_refuses_62 (c0_X6_setLimit _ _ h1.gs (x := nI 0) (Or.inl (by decide))) kY_X6_setLimit kV_X6_setLimit ml_L_86 (by exact h.gs.at0) rfl (by decide) rfl rfl rfl (by first | exact Nat.le_of_ble_eq_true rfl | (simp [Value.category, isR_cat kv_isR, isR_cat aref_isR]; done)) (Nat.le_refl _) (Nat.le_refl _) ?_
          refine gx_bipush (v := -2) hC dL_refuses_65 bp_m2 ?_
          refine gx_icmp_ne (tgt := 135) hC dL_refuses_67 (by decide) (fun c_67 => ?_) (fun c_67 => ?_)
          · first | exact absurd (by rfl) c_67 | exact absurd c_67 (by rfl)
          · refine gx_aload_n (i := 0) hC dL_refuses_70 rfl rfl (by first | exact Or.inr ⟨_, rfl⟩ | exact Or.inl rfl) ?_
            refine gx_bipush (v := nI 17) hC dL_refuses_71 bp_17n ?_
            refine gx_callV1 hC dL_refuses_73 (c0_X6_setLimit _ _ h1.gs (x := nI 17) (Or.inr (by decide))) kY_X6_setLimit kV_X6_setLimit ml_L_86 (by exact h.gs.at0) rfl (by decide) rfl rfl rfl (by first | exact Nat.le_of_ble_eq_true rfl | (simp [Value.category, isR_cat kv_isR, isR_cat aref_isR]; done)) (Nat.le_refl _) (Nat.le_refl _) ?_
            refine gx_bipush (v := -2) hC dL_refuses_76 bp_m2 ?_
            refine gx_icmp_ne (tgt := 135) hC dL_refuses_78 (by decide) (fun c_78 => ?_) (fun c_78 => ?_)
            · first | exact absurd (by rfl) c_78 | exact absurd c_78 (by rfl)
            · refine gx_aload_n (i := 0) hC dL_refuses_81 rfl rfl (by first | exact Or.inr ⟨_, rfl⟩ | exact Or.inl rfl) ?_
              refine gx_iconst (v := nI 3) hC dL_refuses_82 ic_3n ?_
              refine gx_bipush (v := nI 100) hC dL_refuses_83 bp_100n ?_
              refine gx_iconst (v := nI 0) hC dL_refuses_85 ic_0n ?_
              refine gx_callV1 hC dL_refuses_86 (t_enterx h1 (x := nI 3) (fu := nI 100) (y := nI 0) mEw_3 (by decide)) kY_X6_enter kV_X6_enter ml_L_72 (by exact h.gs.at0) rfl (by decide) rfl rfl rfl (by first | exact Nat.le_of_ble_eq_true rfl | (simp [Value.category, isR_cat kv_isR, isR_cat aref_isR]; done)) (Nat.le_refl _) (Nat.le_refl _) ?_
              refine gx_iconst (v := -1) hC dL_refuses_89 ic_m1 ?_
              refine gx_icmp_ne (tgt := 135) hC dL_refuses_90 (by decide) (fun c_90 => ?_) (fun c_90 => ?_)
              · first | exact absurd (by rfl) c_90 | exact absurd c_90 (by rfl)
              · refine gx_aload_n (i := 0) hC dL_refuses_93 rfl rfl (by first | exact Or.inr ⟨_, rfl⟩ | exact Or.inl rfl) ?_
                refine gx_iconst (v := nI 0) hC dL_refuses_94 ic_0n ?_
                refine gx_bipush (v := nI 100) hC dL_refuses_95 bp_100n ?_
                refine gx_iload_n (i := 3) hC dL_refuses_97 rfl rfl ?_
                refine gx_callV1 hC dL_refuses_98 (t_enterx h1 (x := nI 0) (fu := nI 100) (y := nI lv) (mEw_l h1) (by decide)) kY_X6_enter kV_X6_enter ml_L_72 (by exact h.gs.at0) rfl (by decide) rfl rfl rfl (by first | exact Nat.le_of_ble_eq_true rfl | (simp [Value.category, isR_cat kv_isR, isR_cat aref_isR]; done)) (Nat.le_refl _) (Nat.le_refl _) ?_
                refine gx_iconst (v := -1) hC dL_refuses_101 ic_m1 ?_
                refine gx_icmp_ne (tgt := 135) hC dL_refuses_102 (by decide) (fun c_102 => ?_) (fun c_102 => ?_)
                · first | exact absurd (by rfl) c_102 | exact absurd c_102 (by rfl)
                · refine gx_aload_n (i := 0) hC dL_refuses_105 rfl rfl (by first | exact Or.inr ⟨_, rfl⟩ | exact Or.inl rfl) ?_
                  refine gx_iconst (v := nI 0) hC dL_refuses_106 ic_0n ?_
                  refine gx_iconst (v := nI 0) hC dL_refuses_107 ic_0n ?_
                  refine gx_iconst (v := nI 0) hC dL_refuses_108 ic_0n ?_
                  refine gx_callV1 hC dL_refuses_109 (t_enterx h1 (x := nI 0) (fu := nI 0) (y := nI 0) (mEw_b h1 (by decide)) (by decide)) kY_X6_enter kV_X6_enter ml_L_72 (by exact h.gs.at0) rfl (by decide) rfl rfl rfl (by first | exact Nat.le_of_ble_eq_true rfl | (simp [Value.category, isR_cat kv_isR, isR_cat aref_isR]; done)) (Nat.le_refl _) (Nat.le_refl _) ?_
                  refine gx_bipush (v := -2) hC dL_refuses_112 bp_m2 ?_
                  refine gx_icmp_ne (tgt := 135) hC dL_refuses_114 (by decide) (fun c_114 => ?_) (fun c_114 => ?_)
                  · first | exact absurd (by rfl) c_114 | exact absurd c_114 (by rfl)
                  · refine gx_aload_n (i := 0) hC dL_refuses_117 rfl rfl (by first | exact Or.inr ⟨_, rfl⟩ | exact Or.inl rfl) ?_
                    refine gx_iconst (v := nI 0) hC dL_refuses_118 ic_0n ?_
                    refine gx_sipush (v := nI 10000) hC dL_refuses_119 sp_10000n ?_
                    refine gx_iconst (v := nI 0) hC dL_refuses_122 ic_0n ?_
                    refine gx_callV1 hC dL_refuses_123 (t_enterx h1 (x := nI 0) (fu := nI 10000) (y := nI 0) (mEw_b h1 (by decide)) (by decide)) kY_X6_enter kV_X6_enter ml_L_72 (by exact h.gs.at0) rfl (by decide) rfl rfl rfl (by first | exact Nat.le_of_ble_eq_true rfl | (simp [Value.category, isR_cat kv_isR, isR_cat aref_isR]; done)) (Nat.le_refl _) (Nat.le_refl _) ?_
                    refine gx_bipush (v := -2) hC dL_refuses_126 bp_m2 ?_
                    refine gx_icmp_ne (tgt := 135) hC dL_refuses_128 (by decide) (fun c_128 => ?_) (fun c_128 => ?_)
                    · first | exact absurd (by rfl) c_128 | exact absurd c_128 (by rfl)
                    · refine gx_iconst (v := nI 1) hC dL_refuses_131 ic_1n ?_
                      refine gx_goto (tgt := 136) hC dL_refuses_132 (by decide) ?_
                      refine gx_istore (i := 5) (L' := [_, _, _, _, _, _]) hC dL_refuses_136 (Nat.le_of_ble_eq_true rfl) rfl (fun u h9 => by first | exact Or.inl rfl | (cases h9; done) | (right; cases h9; first | rfl | exact isR_cat aref_isR | exact isR_cat kv_isR)) ?_
                      refine gx_iload hC dL_refuses_138 rfl ?_
                      refine gx_if_eq (tgt := 247) hC dL_refuses_140 (by decide) (fun c_140 => ?_) (fun c_140 => ?_)
                      · first | exact absurd (by decide) c_140 | exact absurd c_140 (by decide)
                      · refine gx_aload_n (i := 0) hC dL_refuses_143 rfl rfl (by first | exact Or.inr ⟨_, rfl⟩ | exact Or.inl rfl) ?_
                        refine gx_iload hC dL_refuses_144 rfl ?_
                        refine gx_callV1 hC dL_refuses_146 (t_callx h1) kY_X6_call kV_X6_call ml_L_89 (by exact h.gs.at0) rfl (by decide) rfl rfl rfl (by first | exact Nat.le_of_ble_eq_true rfl | (simp [Value.category, isR_cat kv_isR, isR_cat aref_isR]; done)) (Nat.le_refl _) (Nat.le_refl _) ?_
                        refine gx_iconst (v := -1) hC dL_refuses_149 ic_m1 ?_
                        refine gx_icmp_ne (tgt := 247) hC dL_refuses_150 (by decide) (fun c_150 => ?_) (fun c_150 => ?_)
                        · first | exact absurd (by rfl) c_150 | exact absurd c_150 (by rfl)
                        · refine gx_aload_n (i := 0) hC dL_refuses_153 rfl rfl (by first | exact Or.inr ⟨_, rfl⟩ | exact Or.inl rfl) ?_
                          refine gx_iconst (v := nI 0) hC dL_refuses_154 ic_0n ?_
                          refine gx_callV1 hC dL_refuses_155 (c0_X6_pass _ _ h1.gs (x := nI 0) (Or.inl (by decide))) kY_X6_pass kV_X6_pass ml_L_40 (by exact h.gs.at0) rfl (by decide) rfl rfl rfl (by first | exact Nat.le_of_ble_eq_true rfl | (simp [Value.category, isR_cat kv_isR, isR_cat aref_isR]; done)) (Nat.le_refl _) (Nat.le_refl _) ?_
                          refine gx_bipush (v := -2) hC dL_refuses_158 bp_m2 ?_
                          refine gx_icmp_ne (tgt := 247) hC dL_refuses_160 (by decide) (fun c_160 => ?_) (fun c_160 => ?_)
                          · first | exact absurd (by rfl) c_160 | exact absurd c_160 (by rfl)
                          · refine gx_aload_n (i := 0) hC dL_refuses_163 rfl rfl (by first | exact Or.inr ⟨_, rfl⟩ | exact Or.inl rfl) ?_
                            refine gx_bipush (v := nI 100) hC dL_refuses_164 bp_100n ?_
                            refine gx_callV1 hC dL_refuses_166 (c0_X6_pass _ _ h1.gs (x := nI 100) (Or.inr (by decide))) kY_X6_pass kV_X6_pass ml_L_40 (by exact h.gs.at0) rfl (by decide) rfl rfl rfl (by first | exact Nat.le_of_ble_eq_true rfl | (simp [Value.category, isR_cat kv_isR, isR_cat aref_isR]; done)) (Nat.le_refl _) (Nat.le_refl _) ?_
                            refine gx_bipush (v := -2) hC dL_refuses_169 bp_m2 ?_
                            refine gx_icmp_ne (tgt := 247) hC dL_refuses_171 (by decide) (fun c_171 => ?_) (fun c_171 => ?_)
                            · first | exact absurd (by rfl) c_171 | exact absurd c_171 (by rfl)
                            · refine gx_aload_n (i := 0) hC dL_refuses_174 rfl rfl (by first | exact Or.inr ⟨_, rfl⟩ | exact Or.inl rfl) ?_
                              refine gx_iload hC dL_refuses_175 rfl ?_
                              refine gx_callV1 hC dL_refuses_177 (t_whyx h1) kY_X6_why kV_X6_why ml_L_22 (by exact h.gs.at0) rfl (by decide) rfl rfl rfl (by first | exact Nat.le_of_ble_eq_true rfl | (simp [Value.category, isR_cat kv_isR, isR_cat aref_isR]; done)) (Nat.le_refl _) (Nat.le_refl _) ?_
                              refine gx_iconst (v := -1) hC dL_refuses_180 ic_m1 ?_
                              refine gx_icmp_ne (tgt := 247) hC dL_refuses_181 (by decide) (fun c_181 => ?_) (fun c_181 => ?_)
                              · first | exact absurd (by rfl) c_181 | exact absurd c_181 (by rfl)
                              · refine gx_aload_n (i := 0) hC dL_refuses_184 rfl rfl (by first | exact Or.inr ⟨_, rfl⟩ | exact Or.inl rfl) ?_
                                refine gx_iconst (v := -1) hC dL_refuses_185 ic_m1 ?_
                                refine gx_callV1 hC dL_refuses_186 (c0_X6_minutesLeft _ _ h1.gs (x := -1) sNum_m) kY_X6_minutesLeft kV_X6_minutesLeft ml_L_28 (by exact h.gs.at0) rfl (by decide) rfl rfl rfl (by first | exact Nat.le_of_ble_eq_true rfl | (simp [Value.category, isR_cat kv_isR, isR_cat aref_isR]; done)) (Nat.le_refl _) (Nat.le_refl _) ?_
                                refine gx_iconst (v := -1) hC dL_refuses_189 ic_m1 ?_
                                refine gx_icmp_ne (tgt := 247) hC dL_refuses_190 (by decide) (fun c_190 => ?_) (fun c_190 => ?_)
                                · first | exact absurd (by rfl) c_190 | exact absurd c_190 (by rfl)
                                · refine gx_aload_n (i := 0) hC dL_refuses_193 rfl rfl (by first | exact Or.inr ⟨_, rfl⟩ | exact Or.inl rfl) ?_
                                  refine gx_iload hC dL_refuses_194 rfl ?_
                                  refine gx_callV1 hC dL_refuses_196 (c0_X6_landsWith _ _ h1.gs (x := nI c) (sNum_c h1.sw)) kY_X6_landsWith kV_X6_landsWith ml_L_31 (by exact h.gs.at0) rfl (by decide) rfl rfl rfl (by first | exact Nat.le_of_ble_eq_true rfl | (simp [Value.category, isR_cat kv_isR, isR_cat aref_isR]; done)) (Nat.le_refl _) (Nat.le_refl _) ?_
                                  refine gx_iconst (v := -1) hC dL_refuses_199 ic_m1 ?_
                                  refine gx_icmp_ne (tgt := 247) hC dL_refuses_200 (by decide) (fun c_200 => ?_) (fun c_200 => ?_)
                                  · first | exact absurd (by rfl) c_200 | exact absurd c_200 (by rfl)
                                  · refine gx_aload_n (i := 0) hC dL_refuses_203 rfl rfl (by first | exact Or.inr ⟨_, rfl⟩ | exact Or.inl rfl) ?_
                                    refine gx_iload hC dL_refuses_204 rfl ?_
                                    refine gx_callV1 hC dL_refuses_206 (t_endux h1) kY_X6_endurance kV_X6_endurance ml_L_25 (by exact h.gs.at0) rfl (by decide) rfl rfl rfl (by first | exact Nat.le_of_ble_eq_true rfl | (simp [Value.category, isR_cat kv_isR, isR_cat aref_isR]; done)) (Nat.le_refl _) (Nat.le_refl _) ?_
                                    refine gx_iconst (v := -1) hC dL_refuses_209 ic_m1 ?_
                                    refine gx_icmp_ne (tgt := 247) hC dL_refuses_210 (by decide) (fun c_210 => ?_) (fun c_210 => ?_)
                                    · first | exact absurd (by rfl) c_210 | exact absurd c_210 (by rfl)
                                    · refine gx_aload_n (i := 0) hC dL_refuses_213 rfl rfl (by first | exact Or.inr ⟨_, rfl⟩ | exact Or.inl rfl) ?_
                                      refine gx_iconst (v := -1) hC dL_refuses_214 ic_m1 ?_
                                      refine gx_iconst (v := nI 5) hC dL_refuses_215 ic_5n ?_
                                      refine gx_callV1 hC dL_refuses_216 (t_best1 h1) kY_X6_bestLevel kV_X6_bestLevel ml_L_92 (by exact h.gs.at0) rfl (by decide) rfl rfl rfl (by first | exact Nat.le_of_ble_eq_true rfl | (simp [Value.category, isR_cat kv_isR, isR_cat aref_isR]; done)) (Nat.le_refl _) (Nat.le_refl _) ?_
                                      refine gx_iconst (v := -1) hC dL_refuses_219 ic_m1 ?_
                                      refine gx_icmp_ne (tgt := 247) hC dL_refuses_220 (by decide) (fun c_220 => ?_) (fun c_220 => ?_)
                                      · first | exact absurd (by rfl) c_220 | exact absurd c_220 (by rfl)
                                      · refine gx_aload_n (i := 0) hC dL_refuses_223 rfl rfl (by first | exact Or.inr ⟨_, rfl⟩ | exact Or.inl rfl) ?_
                                        refine gx_iconst (v := nI 0) hC dL_refuses_224 ic_0n ?_
                                        refine gx_iconst (v := nI 0) hC dL_refuses_225 ic_0n ?_
                                        refine gx_callV1 hC dL_refuses_226 (t_best2 h1) kY_X6_bestLevel kV_X6_bestLevel ml_L_92 (by exact h.gs.at0) rfl (by decide) rfl rfl rfl (by first | exact Nat.le_of_ble_eq_true rfl | (simp [Value.category, isR_cat kv_isR, isR_cat aref_isR]; done)) (Nat.le_refl _) (Nat.le_refl _) ?_
                                        refine gx_bipush (v := -2) hC dL_refuses_229 bp_m2 ?_
                                        refine gx_icmp_ne (tgt := 247) hC dL_refuses_231 (by decide) (fun c_231 => ?_) (fun c_231 => ?_)
                                        · first | exact absurd (by rfl) c_231 | exact absurd c_231 (by rfl)
                                        · refine gx_aload_n (i := 0) hC dL_refuses_234 rfl rfl (by first | exact Or.inr ⟨_, rfl⟩ | exact Or.inl rfl) ?_
                                          refine gx_iconst (v := -1) hC dL_refuses_235 ic_m1 ?_
                                          refine gx_callV1 hC dL_refuses_236 (c0_X6_lands _ _ h1.gs (x := -1) (by decide)) kY_X6_lands kV_X6_lands ml_L_34 (by exact h.gs.at0) rfl (by decide) rfl rfl rfl (by first | exact Nat.le_of_ble_eq_true rfl | (simp [Value.category, isR_cat kv_isR, isR_cat aref_isR]; done)) (Nat.le_refl _) (Nat.le_refl _) ?_
                                          refine gx_iconst (v := -1) hC dL_refuses_239 ic_m1 ?_
                                          refine gx_icmp_ne (tgt := 247) hC dL_refuses_240 (by decide) (fun c_240 => ?_) (fun c_240 => ?_)
                                          · first | exact absurd (by rfl) c_240 | exact absurd c_240 (by rfl)
                                          · refine gx_iconst (v := nI 1) hC dL_refuses_243 ic_1n ?_
                                            refine gx_goto (tgt := 248) hC dL_refuses_244 (by decide) ?_
                                            refine gx_istore (i := 5) (L' := [_, _, _, _, _, _]) hC dL_refuses_248 (Nat.le_of_ble_eq_true rfl) rfl (fun u h9 => by first | exact Or.inl rfl | (cases h9; done) | (right; cases h9; first | rfl | exact isR_cat aref_isR | exact isR_cat kv_isR)) ?_
                                            refine gx_iload hC dL_refuses_250 rfl ?_
                                            refine gx_if_eq (tgt := 296) hC dL_refuses_252 (by decide) (fun c_252 => ?_) (fun c_252 => ?_)
                                            · first | exact absurd (by decide) c_252 | exact absurd c_252 (by decide)
                                            · refine gx_aload_n (i := 0) hC dL_refuses_255 rfl rfl (by first | exact Or.inr ⟨_, rfl⟩ | exact Or.inl rfl) ?_
                                              refine gx_bipush (v := nI 18) hC dL_refuses_256 bp_18n ?_
                                              refine gx_callV1 hC dL_refuses_258 (t_tellx h1) kY_X6_tell kV_X6_tell ml_L_9 (by exact h.gs.at0) rfl (by decide) rfl rfl rfl (by first | exact Nat.le_of_ble_eq_true rfl | (simp [Value.category, isR_cat kv_isR, isR_cat aref_isR]; done)) (Nat.le_refl _) (Nat.le_refl _) ?_
                                              refine gx_iconst (v := -1) hC dL_refuses_261 ic_m1 ?_
                                              refine gx_icmp_ne (tgt := 296) hC dL_refuses_262 (by decide) (fun c_262 => ?_) (fun c_262 => ?_)
                                              · first | exact absurd (by rfl) c_262 | exact absurd c_262 (by rfl)
                                              · refine gx_aload_n (i := 0) hC dL_refuses_265 rfl rfl (by first | exact Or.inr ⟨_, rfl⟩ | exact Or.inl rfl) ?_
                                                refine gx_iconst (v := nI 2) hC dL_refuses_266 ic_2n ?_
                                                refine gx_callV1 hC dL_refuses_267 (c0_X6_keep _ _ h1.gs (x := nI 2) (by decide)) kY_X6_keep kV_X6_keep ml_L_37 (by exact h.gs.at0) rfl (by decide) rfl rfl rfl (by first | exact Nat.le_of_ble_eq_true rfl | (simp [Value.category, isR_cat kv_isR, isR_cat aref_isR]; done)) (Nat.le_refl _) (Nat.le_refl _) ?_
                                                refine gx_iconst (v := -1) hC dL_refuses_270 ic_m1 ?_
                                                refine gx_icmp_ne (tgt := 296) hC dL_refuses_271 (by decide) (fun c_271 => ?_) (fun c_271 => ?_)
                                                · first | exact absurd (by rfl) c_271 | exact absurd c_271 (by rfl)
                                                · refine gx_aload_n (i := 0) hC dL_refuses_274 rfl rfl (by first | exact Or.inr ⟨_, rfl⟩ | exact Or.inl rfl) ?_
                                                  refine gx_iconst (v := -1) hC dL_refuses_275 ic_m1 ?_
                                                  refine gx_callV1 hC dL_refuses_276 (c0_X6_restore _ _ h1.gs (x := -1) (by decide)) kY_X6_restore kV_X6_restore ml_L_43 (by exact h.gs.at0) rfl (by decide) rfl rfl rfl (by first | exact Nat.le_of_ble_eq_true rfl | (simp [Value.category, isR_cat kv_isR, isR_cat aref_isR]; done)) (Nat.le_refl _) (Nat.le_refl _) ?_
                                                  refine gx_iconst (v := -1) hC dL_refuses_279 ic_m1 ?_
                                                  refine gx_icmp_ne (tgt := 296) hC dL_refuses_280 (by decide) (fun c_280 => ?_) (fun c_280 => ?_)
                                                  · first | exact absurd (by rfl) c_280 | exact absurd c_280 (by rfl)
                                                  · refine gx_aload_n (i := 0) hC dL_refuses_283 rfl rfl (by first | exact Or.inr ⟨_, rfl⟩ | exact Or.inl rfl) ?_
                                                    refine gx_callV1 hC dL_refuses_284 (k2) kY_X6_checksum kV_X6_checksum ml_L_76 (by exact h.gs.at0) rfl (by decide) rfl rfl rfl (by first | exact Nat.le_of_ble_eq_true rfl | (simp [Value.category, isR_cat kv_isR, isR_cat aref_isR]; done)) (Nat.le_refl _) (Nat.le_refl _) ?_
                                                    refine gx_lload_n (i := 1) hC dL_refuses_287 rfl rfl ?_
                                                    refine gx_lcmp hC dL_refuses_288 ?_
                                                    refine gx_if_ne (tgt := 296) hC dL_refuses_289 (by decide) (fun c_289 => ?_) (fun c_289 => ?_)
                                                    · first | exact absurd (by rfl) c_289 | exact absurd c_289 (by rfl)
                                                    · refine gx_iconst (v := nI 1) hC dL_refuses_292 ic_1n ?_
                                                      refine gx_goto (tgt := 297) hC dL_refuses_293 (by decide) ?_
                                                      exact gx_zret hC hQ dL_refuses_297 (by first | exact Or.inl rfl | exact Or.inr rfl | exact b2_bit _ | assumption) (rfl) (rfl) rfl
