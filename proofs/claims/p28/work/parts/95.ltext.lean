/-! the law: texts -/
theorem mPs_13 {v : Nat → Int32} {lv c : Nat} : mPs v lv c 13 = v 13 := by
  rw [mPs_o (by decide) (by decide) (by omega)]
  cases mPa v c with
  | none => exact mB2_lo (by decide) (by decide) (by decide) (by decide)
  | some j => rw [v3_o (by decide) (by decide) (by omega) (by omega), mB2_lo (by decide) (by decide) (by decide) (by decide)]
theorem mGo_13 {v : Nat → Int32} {lv c : Nat} : ∀ k, mGo v lv c k 13 = v 13
  | 0 => rfl
  | k + 1 => by rw [mGo, mPs_13, mGo_13 k]
theorem hk_n {k : Nat} (h : k < 3) : hk (nI k) := by
  rcases (show k = 0 ∨ k = 1 ∨ k = 2 by omega) with rfl | rfl | rfl
  · exact Or.inl rfl
  · exact Or.inr (Or.inl rfl)
  · exact Or.inr (Or.inr rfl)
set_option maxHeartbeats 4000000 in
set_option maxRecDepth 20000 in
theorem u_textsF (l : Launch) (z : hZt) {M : hMem} {R : hRef} {v : gRow} {lv c q T k fu le m : Nat} {H : Nat → gRow} {K : Nat → Option gRow} (h : PI M R v lv c q H K) (hq : QQ v c T) (hk : k < 3) (h1 : 1 ≤ fu) (hfu : fu ≤ 900) (hle : le < lv) (hm1 : 1 ≤ m) (hm : m ≤ 40) (hF : c = 20) : ∃ M9 R9 w9 c9 q9 H9, hCt l z m_L_texts [.ref (z.1 + 0), .int (nI k), .int (nI fu), .int (nI le), .int (nI m)] 215 M R 215 (some (.int 1)) M9 R9 ∧ PI M9 R9 w9 lv c9 q9 H9 (fun x => if x = 1 then some v else K x) ∧ QQ w9 c9 (T + m) ∧ c ≤ c9 := by
  have c20 := h.sw.c20
  have l16 := h.sw.l16
  have hs := sL_l (k := k) (fu := fu) (le := le)
  have d1 := dg_l (n := fu)
  have d2 := dg_l2 (n := le) (by omega)
  have d3 := dg_l2 (n := m) (by omega)
  have hl15 : le ≤ 15 := by omega
  have so : cOk (sL k fu le) := sL_ok (by omega) (by omega)
  have n1 : (sL k fu le ++ [59]).length = (sL k fu le).length + 1 := by rw [List.length_append]; rfl
  have n2 : (sL k fu le ++ [59, 116]).length = (sL k fu le).length + 2 := by rw [List.length_append]; rfl
  have n3 : (sL k fu le ++ [59, 116, 48]).length = (sL k fu le).length + 3 := by rw [List.length_append]; rfl
  have ng := gT_l (k := k) (fu := fu) (le := le) (m := m)
  have og : cOk (gT k fu le m) := so.app (cOk.cons (by decide) (cOk.cons (by decide) ((dg_ok (by omega)).app (cOk.cons (by decide) cOk.nil))))
  obtain ⟨aa, Ma, ka, ha, ta⟩ := t_clear (l := l) (z := z) h
  obtain ⟨Mb, kb, hb, tb⟩ := t_fault (l := l) (z := z) ha ta cOk.nil (by decide) (a := -6) (if_pos rfl)
  have kc := u_strip l z hb.gs (ln := 0) tb.1 (by decide) hk (show fu ≤ 999 by omega) (show le ≤ 999 by omega)
  have hc := hb.apl (ln := 0) (sL k fu le)
  have tc : TX (apL Mb 0 (sL k fu le)) (sL k fu le) := TX.app (sL k fu le) tb
  obtain ⟨Md, kd, hd, td⟩ := t_app (l := l) (z := z) hc tc (by omega) (x := 59) (by decide) (by decide)
  obtain ⟨Me, ke, he, te⟩ := t_app (l := l) (z := z) hd td (by omega) (x := 116) (by decide) (by decide)
  rw [List.append_assoc] at te
  have te : TX Me (sL k fu le ++ [59, 116]) := te
  obtain ⟨Mf, kf, hf1, tf⟩ := t_fault (l := l) (z := z) he te (so.app (cOk.cons (by decide) (cOk.cons (by decide) cOk.nil))) (by omega) (a := nI ((sL k fu le).length + 2)) (by rw [n2, fx_a te hk h1 (by omega) hl15]; exact if_neg (show ¬ false = true by decide))
  obtain ⟨Mg, kg, hg, tg⟩ := t_run0 (l := l) (z := z) hf1 tf (so.app (cOk.cons (by decide) (cOk.cons (by decide) cOk.nil))) (by omega) (by rw [n2, fx_a tf hk h1 (by omega) hl15]; exact show ¬ false = true by decide)
  obtain ⟨Mh, kh, hh, th⟩ := t_app (l := l) (z := z) hg tg (by omega) (x := 48) (by decide) (by decide)
  rw [List.append_assoc] at th
  have th : TX Mh (sL k fu le ++ [59, 116, 48]) := th
  obtain ⟨Mi, ki, hi, ti⟩ := t_fault (l := l) (z := z) hh th (so.app (cOk.cons (by decide) (cOk.cons (by decide) (cOk.cons (by decide) cOk.nil)))) (by omega) (a := nI ((sL k fu le).length + 2)) (by rw [n3, fx_b th hk h1 (by omega) hl15]; exact if_neg (show ¬ false = true by decide))
  obtain ⟨ab, Mj, kj, hj, tj⟩ := t_clear (l := l) (z := z) hi
  have kk := u_strip l z hj.gs (ln := 0) tj.1 (by decide) hk (show fu ≤ 999 by omega) (show le ≤ 999 by omega)
  have hkk := hj.apl (ln := 0) (sL k fu le)
  have tk : TX (apL Mj 0 (sL k fu le)) (sL k fu le) := TX.app (sL k fu le) tj
  obtain ⟨Ml, kl1, hl1, tl⟩ := t_app (l := l) (z := z) hkk tk (by omega) (x := 59) (by decide) (by decide)
  obtain ⟨Mm, km, hm2, tm⟩ := t_app (l := l) (z := z) hl1 tl (by omega) (x := 116) (by decide) (by decide)
  rw [List.append_assoc] at tm
  have tm : TX Mm (sL k fu le ++ [59, 116]) := tm
  have kn := u_number l z hm2.gs (ln := (sL k fu le ++ [59, 116]).length) tm.1 (by omega) (show m ≤ 999 by omega)
  have hn := hm2.apl (ln := (sL k fu le ++ [59, 116]).length) (dg m)
  have tn := TX.app (dg m) tm
  obtain ⟨Mo, ko, ho, to⟩ := t_app (l := l) (z := z) hn tn (by rw [List.length_append]; omega) (x := 59) (by decide) (by decide)
  rw [List.append_assoc, List.append_assoc] at to
  have to : TX Mo (gT k fu le m) := to
  obtain ⟨Mp, kp, hp, tp⟩ := t_fault (l := l) (z := z) ho to og (by omega) (a := -6) (by rw [ng]; exact if_pos (fx_g to hk h1 (by omega) hl15 hm1 (by omega)))
  obtain ⟨Mq, kq, hq1, eq⟩ := t_keepx (l := l) (z := z) hp (i := 1) (by decide)
  have tq : TX Mq (gT k fu le m) := ⟨(eq 213 1 (by decide)).trans tp.1, fun p hp => (eq 214 p (by decide)).trans (tp.2 p hp)⟩
  obtain ⟨Mr, Rr, kr, hr⟩ := t_runx (l := l) (z := z) hq1 tq og (by omega) (by rw [ng]; exact fx_g tq hk h1 (by omega) hl15 hm1 (by omega))
  rw [ng] at kr hr
  have ew := mEw_f hq1 (hk_n hk) h1 (show fu ≤ 9999 by omega) hle
  obtain ⟨r1, r2, r3⟩ := ru_2 (lv := lv) (c := c) (v := v) tq hk h1 (show fu ≤ 999 by omega) hl15 hm1 (show m ≤ 99 by omega)
  have dd : mEw v (nI k) (nI fu) (nI le) < 0 := by rw [ew, if_pos hF]; decide
  rw [r1 dd] at kr hr
  dsimp only at kr hr
  obtain ⟨Ms, ks, hs1⟩ := t_undo (l := l) (z := z) hr (Nat.succ_pos _) (w := v) (by rw [Nat.add_sub_cancel]; exact hPu_top h.q5) h.rl.wv.mw.lv h.rl.wv.mw.ct l16 c20
  obtain ⟨ae, Mt, Rt, wt, ct, qt, Ht, kt, ht1, hcs⟩ := t_enter (l := l) (z := z) hs1 (hk_n hk) h1 (show fu ≤ 9999 by omega) hle
  obtain ⟨rfl, rfl, rfl⟩ : ae = -4 ∧ wt = v ∧ ct = c := by
    rcases hcs with ⟨e1, e2, e3, e4⟩ | ⟨e1, e2, e3, e4, e5⟩ | ⟨e1, e2, e3, e4, e5⟩
    · exact ⟨e2, e3, e4⟩
    · omega
    · omega
  refine ⟨Mt, Rt, _, _, _, _, ?_, ht1, hq.le (Nat.le_add_right _ _), Nat.le_refl _⟩
  refine hs_start [some (.ref (z.1 + 0)), some (.int (nI k)), some (.int (nI fu)), some (.int (nI le)), some (.int (nI m)), none, none, none, none, none, none, none, none, none] (by decide +kernel) rfl (by intro u hu; simp at hu; rcases hu with rfl | rfl | rfl | rfl | rfl <;> first | rfl | exact isR_cat kv_isR | exact isR_cat aref_isR) (Nat.le_of_ble_eq_true rfl) (Nat.le_refl _) (fun X hlX hN hC hQ => ?_)
  dsimp only at hC hQ
  subst hlX
  refine gx_aload_n (i := 0) hC dL_texts_0 rfl rfl (by first | exact Or.inr ⟨_, rfl⟩ | exact Or.inl rfl) ?_
  refine gx_callV1 hC dL_texts_1 (ka) kY_X6_clearText kV_X6_clearText ml_L_55 (by exact h.gs.at0) rfl (by decide) rfl rfl rfl (by first | exact Nat.le_of_ble_eq_true rfl | (simp [Value.category, isR_cat kv_isR, isR_cat aref_isR]; done)) (Nat.le_refl _) (Nat.le_refl _) ?_
  refine gx_pop hC dL_texts_4 (by first | rfl | exact isR_cat kv_isR | exact isR_cat aref_isR) ?_
  refine gx_aload_n (i := 0) hC dL_texts_5 rfl rfl (by first | exact Or.inr ⟨_, rfl⟩ | exact Or.inl rfl) ?_
  refine gx_callV1 hC dL_texts_6 (kb) kY_X6_faultPosition kV_X6_faultPosition ml_L_59 (by exact h.gs.at0) rfl (by decide) rfl rfl rfl (by first | exact Nat.le_of_ble_eq_true rfl | (simp [Value.category, isR_cat kv_isR, isR_cat aref_isR]; done)) (Nat.le_refl _) (Nat.le_refl _) ?_
  refine gx_bipush (v := -6) hC dL_texts_9 bp_m6 ?_
  refine gx_icmp_ne (tgt := 18) hC dL_texts_11 (by decide) (fun c_11 => ?_) (fun c_11 => ?_)
  · first | exact absurd (by rfl) c_11 | exact absurd c_11 (by rfl)
  · refine gx_iconst (v := nI 1) hC dL_texts_14 ic_1n ?_
    refine gx_goto (tgt := 19) hC dL_texts_15 (by decide) ?_
    refine gx_istore (i := 5) (L' := [_, _, _, _, _, _, _, _, _, _, _, _, _, _]) hC dL_texts_19 (Nat.le_of_ble_eq_true rfl) rfl (fun u h9 => by first | exact Or.inl rfl | (cases h9; done) | (right; cases h9; first | rfl | exact isR_cat aref_isR | exact isR_cat kv_isR)) ?_
    refine gx_aload_n (i := 0) hC dL_texts_21 rfl rfl (by first | exact Or.inr ⟨_, rfl⟩ | exact Or.inl rfl) ?_
    refine gx_iload_n (i := 1) hC dL_texts_22 rfl rfl ?_
    refine gx_iload_n (i := 2) hC dL_texts_23 rfl rfl ?_
    refine gx_iload_n (i := 3) hC dL_texts_24 rfl rfl ?_
    refine gx_callS0 hC dL_texts_25 (kc) kY_L_strip kS_L_strip ml_L_62 (by decide) rfl rfl rfl (by first | exact Nat.le_of_ble_eq_true rfl | (simp [Value.category, isR_cat kv_isR, isR_cat aref_isR]; done)) (Nat.le_refl _) (Nat.le_refl _) ?_
    refine gx_aload_n (i := 0) hC dL_texts_28 rfl rfl (by first | exact Or.inr ⟨_, rfl⟩ | exact Or.inl rfl) ?_
    refine gx_bipush (v := nI 59) hC dL_texts_29 bp_59n ?_
    refine gx_callV1 hC dL_texts_31 (kd) kY_X6_append kV_X6_append ml_L_46 (by exact h.gs.at0) rfl (by decide) rfl rfl rfl (by first | exact Nat.le_of_ble_eq_true rfl | (simp [Value.category, isR_cat kv_isR, isR_cat aref_isR]; done)) (Nat.le_refl _) (Nat.le_refl _) ?_
    refine gx_istore (i := 6) (L' := [_, _, _, _, _, _, _, _, _, _, _, _, _, _]) hC dL_texts_34 (Nat.le_of_ble_eq_true rfl) rfl (fun u h9 => by first | exact Or.inl rfl | (cases h9; done) | (right; cases h9; first | rfl | exact isR_cat aref_isR | exact isR_cat kv_isR)) ?_
    refine gx_aload_n (i := 0) hC dL_texts_36 rfl rfl (by first | exact Or.inr ⟨_, rfl⟩ | exact Or.inl rfl) ?_
    refine gx_bipush (v := nI 116) hC dL_texts_37 bp_116n ?_
    refine gx_callV1 hC dL_texts_39 (ke) kY_X6_append kV_X6_append ml_L_46 (by exact h.gs.at0) rfl (by decide) rfl rfl rfl (by first | exact Nat.le_of_ble_eq_true rfl | (simp [Value.category, isR_cat kv_isR, isR_cat aref_isR]; done)) (Nat.le_refl _) (Nat.le_refl _) ?_
    refine gx_pop hC dL_texts_42 (by first | rfl | exact isR_cat kv_isR | exact isR_cat aref_isR) ?_
    refine gx_iload hC dL_texts_43 rfl ?_
    refine gx_if_eq (tgt := 72) hC dL_texts_45 (by decide) (fun c_45 => ?_) (fun c_45 => ?_)
    · first | exact absurd (by decide) c_45 | exact absurd c_45 (by decide)
    · refine gx_aload_n (i := 0) hC dL_texts_48 rfl rfl (by first | exact Or.inr ⟨_, rfl⟩ | exact Or.inl rfl) ?_
      refine gx_callV1 hC dL_texts_49 (kf) kY_X6_faultPosition kV_X6_faultPosition ml_L_59 (by exact h.gs.at0) rfl (by decide) rfl rfl rfl (by first | exact Nat.le_of_ble_eq_true rfl | (simp [Value.category, isR_cat kv_isR, isR_cat aref_isR]; done)) (Nat.le_refl _) (Nat.le_refl _) ?_
      refine gx_iload hC dL_texts_52 rfl ?_
      refine gx_iconst (v := nI 1) hC dL_texts_54 ic_1n ?_
      refine gx_iadd hC dL_texts_55 ?_
      rw [nI_add]
      refine gx_icmp_ne (tgt := 72) hC dL_texts_56 (by decide) (fun c_56 => ?_) (fun c_56 => ?_)
      · first | exact absurd (by rfl) c_56 | exact absurd c_56 (by rfl)
      · refine gx_aload_n (i := 0) hC dL_texts_59 rfl rfl (by first | exact Or.inr ⟨_, rfl⟩ | exact Or.inl rfl) ?_
        refine gx_callV1 hC dL_texts_60 (kg) kY_X6_run kV_X6_run ml_L_66 (by exact h.gs.at0) rfl (by decide) rfl rfl rfl (by first | exact Nat.le_of_ble_eq_true rfl | (simp [Value.category, isR_cat kv_isR, isR_cat aref_isR]; done)) (Nat.le_refl _) (Nat.le_refl _) ?_
        refine gx_bipush (v := -3) hC dL_texts_63 bp_m3 ?_
        refine gx_icmp_ne (tgt := 72) hC dL_texts_65 (by decide) (fun c_65 => ?_) (fun c_65 => ?_)
        · first | exact absurd (by rfl) c_65 | exact absurd c_65 (by rfl)
        · refine gx_iconst (v := nI 1) hC dL_texts_68 ic_1n ?_
          refine gx_goto (tgt := 73) hC dL_texts_69 (by decide) ?_
          refine gx_istore (i := 5) (L' := [_, _, _, _, _, _, _, _, _, _, _, _, _, _]) hC dL_texts_73 (Nat.le_of_ble_eq_true rfl) rfl (fun u h9 => by first | exact Or.inl rfl | (cases h9; done) | (right; cases h9; first | rfl | exact isR_cat aref_isR | exact isR_cat kv_isR)) ?_
          refine gx_aload_n (i := 0) hC dL_texts_75 rfl rfl (by first | exact Or.inr ⟨_, rfl⟩ | exact Or.inl rfl) ?_
          refine gx_bipush (v := nI 48) hC dL_texts_76 bp_48n ?_
          refine gx_callV1 hC dL_texts_78 (kh) kY_X6_append kV_X6_append ml_L_46 (by exact h.gs.at0) rfl (by decide) rfl rfl rfl (by first | exact Nat.le_of_ble_eq_true rfl | (simp [Value.category, isR_cat kv_isR, isR_cat aref_isR]; done)) (Nat.le_refl _) (Nat.le_refl _) ?_
          refine gx_pop hC dL_texts_81 (by first | rfl | exact isR_cat kv_isR | exact isR_cat aref_isR) ?_
          refine gx_iload hC dL_texts_82 rfl ?_
          refine gx_if_eq (tgt := 102) hC dL_texts_84 (by decide) (fun c_84 => ?_) (fun c_84 => ?_)
          · first | exact absurd (by decide) c_84 | exact absurd c_84 (by decide)
          · refine gx_aload_n (i := 0) hC dL_texts_87 rfl rfl (by first | exact Or.inr ⟨_, rfl⟩ | exact Or.inl rfl) ?_
            refine gx_callV1 hC dL_texts_88 (ki) kY_X6_faultPosition kV_X6_faultPosition ml_L_59 (by exact h.gs.at0) rfl (by decide) rfl rfl rfl (by first | exact Nat.le_of_ble_eq_true rfl | (simp [Value.category, isR_cat kv_isR, isR_cat aref_isR]; done)) (Nat.le_refl _) (Nat.le_refl _) ?_
            refine gx_iload hC dL_texts_91 rfl ?_
            refine gx_iconst (v := nI 1) hC dL_texts_93 ic_1n ?_
            refine gx_iadd hC dL_texts_94 ?_
            rw [nI_add]
            refine gx_icmp_ne (tgt := 102) hC dL_texts_95 (by decide) (fun c_95 => ?_) (fun c_95 => ?_)
            · first | exact absurd (by rfl) c_95 | exact absurd c_95 (by rfl)
            · refine gx_iconst (v := nI 1) hC dL_texts_98 ic_1n ?_
              refine gx_goto (tgt := 103) hC dL_texts_99 (by decide) ?_
              refine gx_istore (i := 5) (L' := [_, _, _, _, _, _, _, _, _, _, _, _, _, _]) hC dL_texts_103 (Nat.le_of_ble_eq_true rfl) rfl (fun u h9 => by first | exact Or.inl rfl | (cases h9; done) | (right; cases h9; first | rfl | exact isR_cat aref_isR | exact isR_cat kv_isR)) ?_
              refine gx_aload_n (i := 0) hC dL_texts_105 rfl rfl (by first | exact Or.inr ⟨_, rfl⟩ | exact Or.inl rfl) ?_
              refine gx_callV1 hC dL_texts_106 (kj) kY_X6_clearText kV_X6_clearText ml_L_55 (by exact h.gs.at0) rfl (by decide) rfl rfl rfl (by first | exact Nat.le_of_ble_eq_true rfl | (simp [Value.category, isR_cat kv_isR, isR_cat aref_isR]; done)) (Nat.le_refl _) (Nat.le_refl _) ?_
              refine gx_pop hC dL_texts_109 (by first | rfl | exact isR_cat kv_isR | exact isR_cat aref_isR) ?_
              refine gx_aload_n (i := 0) hC dL_texts_110 rfl rfl (by first | exact Or.inr ⟨_, rfl⟩ | exact Or.inl rfl) ?_
              refine gx_iload_n (i := 1) hC dL_texts_111 rfl rfl ?_
              refine gx_iload_n (i := 2) hC dL_texts_112 rfl rfl ?_
              refine gx_iload_n (i := 3) hC dL_texts_113 rfl rfl ?_
              refine gx_callS0 hC dL_texts_114 (kk) kY_L_strip kS_L_strip ml_L_62 (by decide) rfl rfl rfl (by first | exact Nat.le_of_ble_eq_true rfl | (simp [Value.category, isR_cat kv_isR, isR_cat aref_isR]; done)) (Nat.le_refl _) (Nat.le_refl _) ?_
              refine gx_aload_n (i := 0) hC dL_texts_117 rfl rfl (by first | exact Or.inr ⟨_, rfl⟩ | exact Or.inl rfl) ?_
              refine gx_bipush (v := nI 59) hC dL_texts_118 bp_59n ?_
              refine gx_callV1 hC dL_texts_120 (kl1) kY_X6_append kV_X6_append ml_L_46 (by exact h.gs.at0) rfl (by decide) rfl rfl rfl (by first | exact Nat.le_of_ble_eq_true rfl | (simp [Value.category, isR_cat kv_isR, isR_cat aref_isR]; done)) (Nat.le_refl _) (Nat.le_refl _) ?_
              refine gx_pop hC dL_texts_123 (by first | rfl | exact isR_cat kv_isR | exact isR_cat aref_isR) ?_
              refine gx_aload_n (i := 0) hC dL_texts_124 rfl rfl (by first | exact Or.inr ⟨_, rfl⟩ | exact Or.inl rfl) ?_
              refine gx_bipush (v := nI 116) hC dL_texts_125 bp_116n ?_
              refine gx_callV1 hC dL_texts_127 (km) kY_X6_append kV_X6_append ml_L_46 (by exact h.gs.at0) rfl (by decide) rfl rfl rfl (by first | exact Nat.le_of_ble_eq_true rfl | (simp [Value.category, isR_cat kv_isR, isR_cat aref_isR]; done)) (Nat.le_refl _) (Nat.le_refl _) ?_
              refine gx_pop hC dL_texts_130 (by first | rfl | exact isR_cat kv_isR | exact isR_cat aref_isR) ?_
              refine gx_aload_n (i := 0) hC dL_texts_131 rfl rfl (by first | exact Or.inr ⟨_, rfl⟩ | exact Or.inl rfl) ?_
              refine gx_iload hC dL_texts_132 rfl ?_
              refine gx_callS0 hC dL_texts_134 (kn) kY_L_number kS_L_number ml_L_49 (by decide) rfl rfl rfl (by first | exact Nat.le_of_ble_eq_true rfl | (simp [Value.category, isR_cat kv_isR, isR_cat aref_isR]; done)) (Nat.le_refl _) (Nat.le_refl _) ?_
              refine gx_aload_n (i := 0) hC dL_texts_137 rfl rfl (by first | exact Or.inr ⟨_, rfl⟩ | exact Or.inl rfl) ?_
              refine gx_bipush (v := nI 59) hC dL_texts_138 bp_59n ?_
              refine gx_callV1 hC dL_texts_140 (ko) kY_X6_append kV_X6_append ml_L_46 (by exact h.gs.at0) rfl (by decide) rfl rfl rfl (by first | exact Nat.le_of_ble_eq_true rfl | (simp [Value.category, isR_cat kv_isR, isR_cat aref_isR]; done)) (Nat.le_refl _) (Nat.le_refl _) ?_
              refine gx_pop hC dL_texts_143 (by first | rfl | exact isR_cat kv_isR | exact isR_cat aref_isR) ?_
              refine gx_iload hC dL_texts_144 rfl ?_
              refine gx_if_eq (tgt := 175) hC dL_texts_146 (by decide) (fun c_146 => ?_) (fun c_146 => ?_)
              · first | exact absurd (by decide) c_146 | exact absurd c_146 (by decide)
              · refine gx_aload_n (i := 0) hC dL_texts_149 rfl rfl (by first | exact Or.inr ⟨_, rfl⟩ | exact Or.inl rfl) ?_
                refine gx_callV1 hC dL_texts_150 (kp) kY_X6_faultPosition kV_X6_faultPosition ml_L_59 (by exact h.gs.at0) rfl (by decide) rfl rfl rfl (by first | exact Nat.le_of_ble_eq_true rfl | (simp [Value.category, isR_cat kv_isR, isR_cat aref_isR]; done)) (Nat.le_refl _) (Nat.le_refl _) ?_
                refine gx_bipush (v := -6) hC dL_texts_153 bp_m6 ?_
                refine gx_icmp_ne (tgt := 175) hC dL_texts_155 (by decide) (fun c_155 => ?_) (fun c_155 => ?_)
                · first | exact absurd (by rfl) c_155 | exact absurd c_155 (by rfl)
                · refine gx_aload_n (i := 0) hC dL_texts_158 rfl rfl (by first | exact Or.inr ⟨_, rfl⟩ | exact Or.inl rfl) ?_
                  refine gx_iconst (v := nI 1) hC dL_texts_159 ic_1n ?_
                  refine gx_callV1 hC dL_texts_160 (kq) kY_X6_keep kV_X6_keep ml_L_37 (by exact h.gs.at0) rfl (by decide) rfl rfl rfl (by first | exact Nat.le_of_ble_eq_true rfl | (simp [Value.category, isR_cat kv_isR, isR_cat aref_isR]; done)) (Nat.le_refl _) (Nat.le_refl _) ?_
                  refine gx_aload_n (i := 0) hC dL_texts_163 rfl rfl (by first | exact Or.inr ⟨_, rfl⟩ | exact Or.inl rfl) ?_
                  refine gx_iconst (v := nI 0) hC dL_texts_164 ic_0n ?_
                  refine gx_callV1 hC dL_texts_165 (tt0 hq1) kY_X6_tell kV_X6_tell ml_L_9 (by exact h.gs.at0) rfl (by decide) rfl rfl rfl (by first | exact Nat.le_of_ble_eq_true rfl | (simp [Value.category, isR_cat kv_isR, isR_cat aref_isR]; done)) (Nat.le_refl _) (Nat.le_refl _) ?_
                  refine gx_icmp_ne (tgt := 175) hC dL_texts_168 (by decide) (fun c_168 => ?_) (fun c_168 => ?_)
                  · first | exact absurd (by rfl) c_168 | exact absurd c_168 (by rfl)
                  · refine gx_iconst (v := nI 1) hC dL_texts_171 ic_1n ?_
                    refine gx_goto (tgt := 176) hC dL_texts_172 (by decide) ?_
                    refine gx_istore (i := 5) (L' := [_, _, _, _, _, _, _, _, _, _, _, _, _, _]) hC dL_texts_176 (Nat.le_of_ble_eq_true rfl) rfl (fun u h9 => by first | exact Or.inl rfl | (cases h9; done) | (right; cases h9; first | rfl | exact isR_cat aref_isR | exact isR_cat kv_isR)) ?_
                    refine gx_aload_n (i := 0) hC dL_texts_178 rfl rfl (by first | exact Or.inr ⟨_, rfl⟩ | exact Or.inl rfl) ?_
                    refine gx_iconst (v := nI 0) hC dL_texts_179 ic_0n ?_
                    refine gx_callV1 hC dL_texts_180 (tt0 hq1) kY_X6_tell kV_X6_tell ml_L_9 (by exact h.gs.at0) rfl (by decide) rfl rfl rfl (by first | exact Nat.le_of_ble_eq_true rfl | (simp [Value.category, isR_cat kv_isR, isR_cat aref_isR]; done)) (Nat.le_refl _) (Nat.le_refl _) ?_
                    refine gx_istore (i := 7) (L' := [_, _, _, _, _, _, _, _, _, _, _, _, _, _]) hC dL_texts_183 (Nat.le_of_ble_eq_true rfl) rfl (fun u h9 => by first | exact Or.inl rfl | (cases h9; done) | (right; cases h9; first | rfl | exact isR_cat aref_isR | exact isR_cat kv_isR)) ?_
                    refine gx_aload_n (i := 0) hC dL_texts_185 rfl rfl (by first | exact Or.inr ⟨_, rfl⟩ | exact Or.inl rfl) ?_
                    refine gx_iconst (v := nI 3) hC dL_texts_186 ic_3n ?_
                    refine gx_callV1 hC dL_texts_187 (tt3 hq1) kY_X6_tell kV_X6_tell ml_L_9 (by exact h.gs.at0) rfl (by decide) rfl rfl rfl (by first | exact Nat.le_of_ble_eq_true rfl | (simp [Value.category, isR_cat kv_isR, isR_cat aref_isR]; done)) (Nat.le_refl _) (Nat.le_refl _) ?_
                    refine gx_istore (i := 8) (L' := [_, _, _, _, _, _, _, _, _, _, _, _, _, _]) hC dL_texts_190 (Nat.le_of_ble_eq_true rfl) rfl (fun u h9 => by first | exact Or.inl rfl | (cases h9; done) | (right; cases h9; first | rfl | exact isR_cat aref_isR | exact isR_cat kv_isR)) ?_
                    refine gx_aload_n (i := 0) hC dL_texts_192 rfl rfl (by first | exact Or.inr ⟨_, rfl⟩ | exact Or.inl rfl) ?_
                    refine gx_callV1 hC dL_texts_193 (kr) kY_X6_run kV_X6_run ml_L_66 (by exact h.gs.at0) rfl (by decide) rfl rfl rfl (by first | exact Nat.le_of_ble_eq_true rfl | (simp [Value.category, isR_cat kv_isR, isR_cat aref_isR]; done)) (Nat.le_refl _) (Nat.le_refl _) ?_
                    refine gx_istore (i := 9) (L' := [_, _, _, _, _, _, _, _, _, _, _, _, _, _]) hC dL_texts_196 (Nat.le_of_ble_eq_true rfl) rfl (fun u h9 => by first | exact Or.inl rfl | (cases h9; done) | (right; cases h9; first | rfl | exact isR_cat aref_isR | exact isR_cat kv_isR)) ?_
                    refine gx_aload_n (i := 0) hC dL_texts_198 rfl rfl (by first | exact Or.inr ⟨_, rfl⟩ | exact Or.inl rfl) ?_
                    refine gx_bipush (v := nI 16) hC dL_texts_199 bp_16n ?_
                    refine gx_callV1 hC dL_texts_201 (tt16 hr) kY_X6_tell kV_X6_tell ml_L_9 (by exact h.gs.at0) rfl (by decide) rfl rfl rfl (by first | exact Nat.le_of_ble_eq_true rfl | (simp [Value.category, isR_cat kv_isR, isR_cat aref_isR]; done)) (Nat.le_refl _) (Nat.le_refl _) ?_
                    refine gx_istore (i := 10) (L' := [_, _, _, _, _, _, _, _, _, _, _, _, _, _]) hC dL_texts_204 (Nat.le_of_ble_eq_true rfl) rfl (fun u h9 => by first | exact Or.inl rfl | (cases h9; done) | (right; cases h9; first | rfl | exact isR_cat aref_isR | exact isR_cat kv_isR)) ?_
                    refine gx_aload_n (i := 0) hC dL_texts_206 rfl rfl (by first | exact Or.inr ⟨_, rfl⟩ | exact Or.inl rfl) ?_
                    refine gx_bipush (v := nI 13) hC dL_texts_207 bp_13n ?_
                    refine gx_callV1 hC dL_texts_209 (tt13 hr) kY_X6_tell kV_X6_tell ml_L_9 (by exact h.gs.at0) rfl (by decide) rfl rfl rfl (by first | exact Nat.le_of_ble_eq_true rfl | (simp [Value.category, isR_cat kv_isR, isR_cat aref_isR]; done)) (Nat.le_refl _) (Nat.le_refl _) ?_
                    refine gx_istore (i := 11) (L' := [_, _, _, _, _, _, _, _, _, _, _, _, _, _]) hC dL_texts_212 (Nat.le_of_ble_eq_true rfl) rfl (fun u h9 => by first | exact Or.inl rfl | (cases h9; done) | (right; cases h9; first | rfl | exact isR_cat aref_isR | exact isR_cat kv_isR)) ?_
                    refine gx_aload_n (i := 0) hC dL_texts_214 rfl rfl (by first | exact Or.inr ⟨_, rfl⟩ | exact Or.inl rfl) ?_
                    refine gx_bipush (v := nI 7) hC dL_texts_215 bp_7n ?_
                    refine gx_callV1 hC dL_texts_217 (tt7 hr) kY_X6_tell kV_X6_tell ml_L_9 (by exact h.gs.at0) rfl (by decide) rfl rfl rfl (by first | exact Nat.le_of_ble_eq_true rfl | (simp [Value.category, isR_cat kv_isR, isR_cat aref_isR]; done)) (Nat.le_refl _) (Nat.le_refl _) ?_
                    refine gx_istore (i := 12) (L' := [_, _, _, _, _, _, _, _, _, _, _, _, _, _]) hC dL_texts_220 (Nat.le_of_ble_eq_true rfl) rfl (fun u h9 => by first | exact Or.inl rfl | (cases h9; done) | (right; cases h9; first | rfl | exact isR_cat aref_isR | exact isR_cat kv_isR)) ?_
                    refine gx_iload hC dL_texts_222 rfl ?_
                    refine gx_if_eq (tgt := 312) hC dL_texts_224 (by decide) (fun c_224 => ?_) (fun c_224 => ?_)
                    · first | exact absurd (by decide) c_224 | exact absurd c_224 (by decide)
                    · refine gx_iload hC dL_texts_227 rfl ?_
                      refine gx_iconst (v := nI 2) hC dL_texts_229 ic_2n ?_
                      refine gx_icmp_ne (tgt := 266) hC dL_texts_230 (by decide) (fun c_230 => ?_) (fun c_230 => ?_)
                      · refine gx_iload hC dL_texts_266 rfl ?_
                        refine gx_if_ne (tgt := 312) hC dL_texts_268 (by decide) (fun c_268 => ?_) (fun c_268 => ?_)
                        · first | exact absurd (by rfl) c_268 | exact absurd c_268 (by rfl)
                        · refine gx_aload_n (i := 0) hC dL_texts_271 rfl rfl (by first | exact Or.inr ⟨_, rfl⟩ | exact Or.inl rfl) ?_
                          refine gx_iconst (v := nI 0) hC dL_texts_272 ic_0n ?_
                          refine gx_callV1 hC dL_texts_273 (tt0 hr) kY_X6_tell kV_X6_tell ml_L_9 (by exact h.gs.at0) rfl (by decide) rfl rfl rfl (by first | exact Nat.le_of_ble_eq_true rfl | (simp [Value.category, isR_cat kv_isR, isR_cat aref_isR]; done)) (Nat.le_refl _) (Nat.le_refl _) ?_
                          refine gx_iload hC dL_texts_276 rfl ?_
                          refine gx_icmp_ne (tgt := 312) hC dL_texts_278 (by decide) (fun c_278 => ?_) (fun c_278 => ?_)
                          · first | exact absurd (by rfl) c_278 | exact absurd c_278 (by rfl)
                          · refine gx_aload_n (i := 0) hC dL_texts_281 rfl rfl (by first | exact Or.inr ⟨_, rfl⟩ | exact Or.inl rfl) ?_
                            refine gx_iconst (v := nI 3) hC dL_texts_282 ic_3n ?_
                            refine gx_callV1 hC dL_texts_283 (tt3 hr) kY_X6_tell kV_X6_tell ml_L_9 (by exact h.gs.at0) rfl (by decide) rfl rfl rfl (by first | exact Nat.le_of_ble_eq_true rfl | (simp [Value.category, isR_cat kv_isR, isR_cat aref_isR]; done)) (Nat.le_refl _) (Nat.le_refl _) ?_
                            refine gx_iload hC dL_texts_286 rfl ?_
                            refine gx_icmp_ne (tgt := 312) hC dL_texts_288 (by decide) (fun c_288 => ?_) (fun c_288 => ?_)
                            · first | exact absurd (by rfl) c_288 | exact absurd c_288 (by rfl)
                            · refine gx_aload_n (i := 0) hC dL_texts_291 rfl rfl (by first | exact Or.inr ⟨_, rfl⟩ | exact Or.inl rfl) ?_
                              refine gx_callV1 hC dL_texts_292 (ks) kY_X6_undo kV_X6_undo ml_L_69 (by exact h.gs.at0) rfl (by decide) rfl rfl rfl (by first | exact Nat.le_of_ble_eq_true rfl | (simp [Value.category, isR_cat kv_isR, isR_cat aref_isR]; done)) (Nat.le_refl _) (Nat.le_refl _) ?_
                              refine gx_if_lt (tgt := 312) hC dL_texts_295 (by decide) (fun c_295 => ?_) (fun c_295 => ?_)
                              · first | exact absurd (by exact nI_pos (by omega)) c_295 | exact absurd c_295 (by exact nI_pos (by omega))
                              · refine gx_aload_n (i := 0) hC dL_texts_298 rfl rfl (by first | exact Or.inr ⟨_, rfl⟩ | exact Or.inl rfl) ?_
                                refine gx_iconst (v := nI 0) hC dL_texts_299 ic_0n ?_
                                refine gx_callV1 hC dL_texts_300 (tt0 hs1) kY_X6_tell kV_X6_tell ml_L_9 (by exact h.gs.at0) rfl (by decide) rfl rfl rfl (by first | exact Nat.le_of_ble_eq_true rfl | (simp [Value.category, isR_cat kv_isR, isR_cat aref_isR]; done)) (Nat.le_refl _) (Nat.le_refl _) ?_
                                refine gx_iload hC dL_texts_303 rfl ?_
                                refine gx_icmp_ne (tgt := 312) hC dL_texts_305 (by decide) (fun c_305 => ?_) (fun c_305 => ?_)
                                · first | exact absurd (by rfl) c_305 | exact absurd c_305 (by rfl)
                                · refine gx_iconst (v := nI 1) hC dL_texts_308 ic_1n ?_
                                  refine gx_goto (tgt := 313) hC dL_texts_309 (by decide) ?_
                                  refine gx_istore (i := 5) (L' := [_, _, _, _, _, _, _, _, _, _, _, _, _, _]) hC dL_texts_313 (Nat.le_of_ble_eq_true rfl) rfl (fun u h9 => by first | exact Or.inl rfl | (cases h9; done) | (right; cases h9; first | rfl | exact isR_cat aref_isR | exact isR_cat kv_isR)) ?_
                                  refine gx_aload_n (i := 0) hC dL_texts_315 rfl rfl (by first | exact Or.inr ⟨_, rfl⟩ | exact Or.inl rfl) ?_
                                  refine gx_iload_n (i := 1) hC dL_texts_316 rfl rfl ?_
                                  refine gx_iload_n (i := 2) hC dL_texts_317 rfl rfl ?_
                                  refine gx_iload_n (i := 3) hC dL_texts_318 rfl rfl ?_
                                  refine gx_callV1 hC dL_texts_319 (kt) kY_X6_enter kV_X6_enter ml_L_72 (by exact h.gs.at0) rfl (by decide) rfl rfl rfl (by first | exact Nat.le_of_ble_eq_true rfl | (simp [Value.category, isR_cat kv_isR, isR_cat aref_isR]; done)) (Nat.le_refl _) (Nat.le_refl _) ?_
                                  refine gx_istore (i := 13) (L' := [_, _, _, _, _, _, _, _, _, _, _, _, _, _]) hC dL_texts_322 (Nat.le_of_ble_eq_true rfl) rfl (fun u h9 => by first | exact Or.inl rfl | (cases h9; done) | (right; cases h9; first | rfl | exact isR_cat aref_isR | exact isR_cat kv_isR)) ?_
                                  refine gx_iload hC dL_texts_324 rfl ?_
                                  refine gx_if_eq (tgt := 403) hC dL_texts_326 (by decide) (fun c_326 => ?_) (fun c_326 => ?_)
                                  · first | exact absurd (by decide) c_326 | exact absurd c_326 (by decide)
                                  · refine gx_iload hC dL_texts_329 rfl ?_
                                    refine gx_iconst (v := nI 2) hC dL_texts_331 ic_2n ?_
                                    refine gx_icmp_ne (tgt := 376) hC dL_texts_332 (by decide) (fun c_332 => ?_) (fun c_332 => ?_)
                                    · refine gx_iload hC dL_texts_376 rfl ?_
                                      refine gx_if_ge (tgt := 403) hC dL_texts_378 (by decide) (fun c_378 => ?_) (fun c_378 => ?_)
                                      · first | exact absurd (by decide) c_378 | exact absurd c_378 (by decide)
                                      · refine gx_iload hC dL_texts_381 rfl ?_
                                        refine gx_bipush (v := -5) hC dL_texts_383 bp_m5 ?_
                                        refine gx_icmp_ne (tgt := 399) hC dL_texts_385 (by decide) (fun c_385 => ?_) (fun c_385 => ?_)
                                        · refine gx_iconst (v := nI 1) hC dL_texts_399 ic_1n ?_
                                          refine gx_goto (tgt := 404) hC dL_texts_400 (by decide) ?_
                                          exact gx_zret hC hQ dL_texts_404 (by first | exact Or.inl rfl | exact Or.inr rfl | exact b2_bit _ | assumption) (rfl) (rfl) rfl
                                        · first | exact absurd (by decide) c_385 | exact absurd c_385 (by decide)
                                    · first | exact absurd (by decide) c_332 | exact absurd c_332 (by decide)
                      · first | exact absurd (by decide) c_230 | exact absurd c_230 (by decide)
set_option maxHeartbeats 4000000 in
set_option maxRecDepth 20000 in
theorem u_textsR (l : Launch) (z : hZt) {M : hMem} {R : hRef} {v : gRow} {lv c q T k fu le m : Nat} {H : Nat → gRow} {K : Nat → Option gRow} (h : PI M R v lv c q H K) (hq : QQ v c T) (hk : k < 3) (h1 : 1 ≤ fu) (hfu : fu ≤ 900) (hle : le < lv) (hm1 : 1 ≤ m) (hm : m ≤ 40) (hc2 : c < 20) (hR : 0 < mRf v c (nI k) (nI fu) (nI le)) : ∃ M9 R9 w9 c9 q9 H9, hCt l z m_L_texts [.ref (z.1 + 0), .int (nI k), .int (nI fu), .int (nI le), .int (nI m)] 215 M R 215 (some (.int 1)) M9 R9 ∧ PI M9 R9 w9 lv c9 q9 H9 (fun x => if x = 1 then some v else K x) ∧ QQ w9 c9 (T + m) ∧ c ≤ c9 := by
  have c20 := h.sw.c20
  have l16 := h.sw.l16
  have hs := sL_l (k := k) (fu := fu) (le := le)
  have d1 := dg_l (n := fu)
  have d2 := dg_l2 (n := le) (by omega)
  have d3 := dg_l2 (n := m) (by omega)
  have hl15 : le ≤ 15 := by omega
  have so : cOk (sL k fu le) := sL_ok (by omega) (by omega)
  have n1 : (sL k fu le ++ [59]).length = (sL k fu le).length + 1 := by rw [List.length_append]; rfl
  have n2 : (sL k fu le ++ [59, 116]).length = (sL k fu le).length + 2 := by rw [List.length_append]; rfl
  have n3 : (sL k fu le ++ [59, 116, 48]).length = (sL k fu le).length + 3 := by rw [List.length_append]; rfl
  have ng := gT_l (k := k) (fu := fu) (le := le) (m := m)
  have og : cOk (gT k fu le m) := so.app (cOk.cons (by decide) (cOk.cons (by decide) ((dg_ok (by omega)).app (cOk.cons (by decide) cOk.nil))))
  obtain ⟨aa, Ma, ka, ha, ta⟩ := t_clear (l := l) (z := z) h
  obtain ⟨Mb, kb, hb, tb⟩ := t_fault (l := l) (z := z) ha ta cOk.nil (by decide) (a := -6) (if_pos rfl)
  have kc := u_strip l z hb.gs (ln := 0) tb.1 (by decide) hk (show fu ≤ 999 by omega) (show le ≤ 999 by omega)
  have hc := hb.apl (ln := 0) (sL k fu le)
  have tc : TX (apL Mb 0 (sL k fu le)) (sL k fu le) := TX.app (sL k fu le) tb
  obtain ⟨Md, kd, hd, td⟩ := t_app (l := l) (z := z) hc tc (by omega) (x := 59) (by decide) (by decide)
  obtain ⟨Me, ke, he, te⟩ := t_app (l := l) (z := z) hd td (by omega) (x := 116) (by decide) (by decide)
  rw [List.append_assoc] at te
  have te : TX Me (sL k fu le ++ [59, 116]) := te
  obtain ⟨Mf, kf, hf1, tf⟩ := t_fault (l := l) (z := z) he te (so.app (cOk.cons (by decide) (cOk.cons (by decide) cOk.nil))) (by omega) (a := nI ((sL k fu le).length + 2)) (by rw [n2, fx_a te hk h1 (by omega) hl15]; exact if_neg (show ¬ false = true by decide))
  obtain ⟨Mg, kg, hg, tg⟩ := t_run0 (l := l) (z := z) hf1 tf (so.app (cOk.cons (by decide) (cOk.cons (by decide) cOk.nil))) (by omega) (by rw [n2, fx_a tf hk h1 (by omega) hl15]; exact show ¬ false = true by decide)
  obtain ⟨Mh, kh, hh, th⟩ := t_app (l := l) (z := z) hg tg (by omega) (x := 48) (by decide) (by decide)
  rw [List.append_assoc] at th
  have th : TX Mh (sL k fu le ++ [59, 116, 48]) := th
  obtain ⟨Mi, ki, hi, ti⟩ := t_fault (l := l) (z := z) hh th (so.app (cOk.cons (by decide) (cOk.cons (by decide) (cOk.cons (by decide) cOk.nil)))) (by omega) (a := nI ((sL k fu le).length + 2)) (by rw [n3, fx_b th hk h1 (by omega) hl15]; exact if_neg (show ¬ false = true by decide))
  obtain ⟨ab, Mj, kj, hj, tj⟩ := t_clear (l := l) (z := z) hi
  have kk := u_strip l z hj.gs (ln := 0) tj.1 (by decide) hk (show fu ≤ 999 by omega) (show le ≤ 999 by omega)
  have hkk := hj.apl (ln := 0) (sL k fu le)
  have tk : TX (apL Mj 0 (sL k fu le)) (sL k fu le) := TX.app (sL k fu le) tj
  obtain ⟨Ml, kl1, hl1, tl⟩ := t_app (l := l) (z := z) hkk tk (by omega) (x := 59) (by decide) (by decide)
  obtain ⟨Mm, km, hm2, tm⟩ := t_app (l := l) (z := z) hl1 tl (by omega) (x := 116) (by decide) (by decide)
  rw [List.append_assoc] at tm
  have tm : TX Mm (sL k fu le ++ [59, 116]) := tm
  have kn := u_number l z hm2.gs (ln := (sL k fu le ++ [59, 116]).length) tm.1 (by omega) (show m ≤ 999 by omega)
  have hn := hm2.apl (ln := (sL k fu le ++ [59, 116]).length) (dg m)
  have tn := TX.app (dg m) tm
  obtain ⟨Mo, ko, ho, to⟩ := t_app (l := l) (z := z) hn tn (by rw [List.length_append]; omega) (x := 59) (by decide) (by decide)
  rw [List.append_assoc, List.append_assoc] at to
  have to : TX Mo (gT k fu le m) := to
  obtain ⟨Mp, kp, hp, tp⟩ := t_fault (l := l) (z := z) ho to og (by omega) (a := -6) (by rw [ng]; exact if_pos (fx_g to hk h1 (by omega) hl15 hm1 (by omega)))
  obtain ⟨Mq, kq, hq1, eq⟩ := t_keepx (l := l) (z := z) hp (i := 1) (by decide)
  have tq : TX Mq (gT k fu le m) := ⟨(eq 213 1 (by decide)).trans tp.1, fun p hp => (eq 214 p (by decide)).trans (tp.2 p hp)⟩
  obtain ⟨Mr, Rr, kr, hr⟩ := t_runx (l := l) (z := z) hq1 tq og (by omega) (by rw [ng]; exact fx_g tq hk h1 (by omega) hl15 hm1 (by omega))
  rw [ng] at kr hr
  have ew := mEw_f hq1 (hk_n hk) h1 (show fu ≤ 9999 by omega) hle
  obtain ⟨r1, r2, r3⟩ := ru_2 (lv := lv) (c := c) (v := v) tq hk h1 (show fu ≤ 999 by omega) hl15 hm1 (show m ≤ 99 by omega)
  have dd : ¬ mEw v (nI k) (nI fu) (nI le) < 0 := by rw [ew, if_neg (by omega)]; decide
  rw [r2 dd hR] at kr hr
  dsimp only at kr hr
  obtain ⟨Ms, ks, hs1⟩ := t_undo (l := l) (z := z) hr (Nat.succ_pos _) (w := v) (by rw [Nat.add_sub_cancel]; exact hPu_top h.q5) h.rl.wv.mw.lv h.rl.wv.mw.ct l16 c20
  obtain ⟨ae, Mt, Rt, wt, ct, qt, Ht, kt, ht1, hcs⟩ := t_enter (l := l) (z := z) hs1 (hk_n hk) h1 (show fu ≤ 9999 by omega) hle
  obtain ⟨rfl, rfl, rfl⟩ : ae = -5 ∧ wt = upd v 13 (mRf v c (nI k) (nI fu) (nI le)) ∧ ct = c := by
    rcases hcs with ⟨e1, e2, e3, e4⟩ | ⟨e1, e2, e3, e4, e5⟩ | ⟨e1, e2, e3, e4, e5⟩
    · omega
    · exact ⟨e3, e4, e5⟩
    · rw [e2] at hR; exact absurd hR (by decide)
  refine ⟨Mt, Rt, _, _, _, _, ?_, ht1, (hq.up (by decide) (by omega)).le (Nat.le_add_right _ _), Nat.le_refl _⟩
  refine hs_start [some (.ref (z.1 + 0)), some (.int (nI k)), some (.int (nI fu)), some (.int (nI le)), some (.int (nI m)), none, none, none, none, none, none, none, none, none] (by decide +kernel) rfl (by intro u hu; simp at hu; rcases hu with rfl | rfl | rfl | rfl | rfl <;> first | rfl | exact isR_cat kv_isR | exact isR_cat aref_isR) (Nat.le_of_ble_eq_true rfl) (Nat.le_refl _) (fun X hlX hN hC hQ => ?_)
  dsimp only at hC hQ
  subst hlX
  refine gx_aload_n (i := 0) hC dL_texts_0 rfl rfl (by first | exact Or.inr ⟨_, rfl⟩ | exact Or.inl rfl) ?_
  refine gx_callV1 hC dL_texts_1 (ka) kY_X6_clearText kV_X6_clearText ml_L_55 (by exact h.gs.at0) rfl (by decide) rfl rfl rfl (by first | exact Nat.le_of_ble_eq_true rfl | (simp [Value.category, isR_cat kv_isR, isR_cat aref_isR]; done)) (Nat.le_refl _) (Nat.le_refl _) ?_
  refine gx_pop hC dL_texts_4 (by first | rfl | exact isR_cat kv_isR | exact isR_cat aref_isR) ?_
  refine gx_aload_n (i := 0) hC dL_texts_5 rfl rfl (by first | exact Or.inr ⟨_, rfl⟩ | exact Or.inl rfl) ?_
  refine gx_callV1 hC dL_texts_6 (kb) kY_X6_faultPosition kV_X6_faultPosition ml_L_59 (by exact h.gs.at0) rfl (by decide) rfl rfl rfl (by first | exact Nat.le_of_ble_eq_true rfl | (simp [Value.category, isR_cat kv_isR, isR_cat aref_isR]; done)) (Nat.le_refl _) (Nat.le_refl _) ?_
  refine gx_bipush (v := -6) hC dL_texts_9 bp_m6 ?_
  refine gx_icmp_ne (tgt := 18) hC dL_texts_11 (by decide) (fun c_11 => ?_) (fun c_11 => ?_)
  · first | exact absurd (by rfl) c_11 | exact absurd c_11 (by rfl)
  · refine gx_iconst (v := nI 1) hC dL_texts_14 ic_1n ?_
    refine gx_goto (tgt := 19) hC dL_texts_15 (by decide) ?_
    refine gx_istore (i := 5) (L' := [_, _, _, _, _, _, _, _, _, _, _, _, _, _]) hC dL_texts_19 (Nat.le_of_ble_eq_true rfl) rfl (fun u h9 => by first | exact Or.inl rfl | (cases h9; done) | (right; cases h9; first | rfl | exact isR_cat aref_isR | exact isR_cat kv_isR)) ?_
    refine gx_aload_n (i := 0) hC dL_texts_21 rfl rfl (by first | exact Or.inr ⟨_, rfl⟩ | exact Or.inl rfl) ?_
    refine gx_iload_n (i := 1) hC dL_texts_22 rfl rfl ?_
    refine gx_iload_n (i := 2) hC dL_texts_23 rfl rfl ?_
    refine gx_iload_n (i := 3) hC dL_texts_24 rfl rfl ?_
    refine gx_callS0 hC dL_texts_25 (kc) kY_L_strip kS_L_strip ml_L_62 (by decide) rfl rfl rfl (by first | exact Nat.le_of_ble_eq_true rfl | (simp [Value.category, isR_cat kv_isR, isR_cat aref_isR]; done)) (Nat.le_refl _) (Nat.le_refl _) ?_
    refine gx_aload_n (i := 0) hC dL_texts_28 rfl rfl (by first | exact Or.inr ⟨_, rfl⟩ | exact Or.inl rfl) ?_
    refine gx_bipush (v := nI 59) hC dL_texts_29 bp_59n ?_
    refine gx_callV1 hC dL_texts_31 (kd) kY_X6_append kV_X6_append ml_L_46 (by exact h.gs.at0) rfl (by decide) rfl rfl rfl (by first | exact Nat.le_of_ble_eq_true rfl | (simp [Value.category, isR_cat kv_isR, isR_cat aref_isR]; done)) (Nat.le_refl _) (Nat.le_refl _) ?_
    refine gx_istore (i := 6) (L' := [_, _, _, _, _, _, _, _, _, _, _, _, _, _]) hC dL_texts_34 (Nat.le_of_ble_eq_true rfl) rfl (fun u h9 => by first | exact Or.inl rfl | (cases h9; done) | (right; cases h9; first | rfl | exact isR_cat aref_isR | exact isR_cat kv_isR)) ?_
    refine gx_aload_n (i := 0) hC dL_texts_36 rfl rfl (by first | exact Or.inr ⟨_, rfl⟩ | exact Or.inl rfl) ?_
    refine gx_bipush (v := nI 116) hC dL_texts_37 bp_116n ?_
    refine gx_callV1 hC dL_texts_39 (ke) kY_X6_append kV_X6_append ml_L_46 (by exact h.gs.at0) rfl (by decide) rfl rfl rfl (by first | exact Nat.le_of_ble_eq_true rfl | (simp [Value.category, isR_cat kv_isR, isR_cat aref_isR]; done)) (Nat.le_refl _) (Nat.le_refl _) ?_
    refine gx_pop hC dL_texts_42 (by first | rfl | exact isR_cat kv_isR | exact isR_cat aref_isR) ?_
    refine gx_iload hC dL_texts_43 rfl ?_
    refine gx_if_eq (tgt := 72) hC dL_texts_45 (by decide) (fun c_45 => ?_) (fun c_45 => ?_)
    · first | exact absurd (by decide) c_45 | exact absurd c_45 (by decide)
    · refine gx_aload_n (i := 0) hC dL_texts_48 rfl rfl (by first | exact Or.inr ⟨_, rfl⟩ | exact Or.inl rfl) ?_
      refine gx_callV1 hC dL_texts_49 (kf) kY_X6_faultPosition kV_X6_faultPosition ml_L_59 (by exact h.gs.at0) rfl (by decide) rfl rfl rfl (by first | exact Nat.le_of_ble_eq_true rfl | (simp [Value.category, isR_cat kv_isR, isR_cat aref_isR]; done)) (Nat.le_refl _) (Nat.le_refl _) ?_
      refine gx_iload hC dL_texts_52 rfl ?_
      refine gx_iconst (v := nI 1) hC dL_texts_54 ic_1n ?_
      refine gx_iadd hC dL_texts_55 ?_
      rw [nI_add]
      refine gx_icmp_ne (tgt := 72) hC dL_texts_56 (by decide) (fun c_56 => ?_) (fun c_56 => ?_)
      · first | exact absurd (by rfl) c_56 | exact absurd c_56 (by rfl)
      · refine gx_aload_n (i := 0) hC dL_texts_59 rfl rfl (by first | exact Or.inr ⟨_, rfl⟩ | exact Or.inl rfl) ?_
        refine gx_callV1 hC dL_texts_60 (kg) kY_X6_run kV_X6_run ml_L_66 (by exact h.gs.at0) rfl (by decide) rfl rfl rfl (by first | exact Nat.le_of_ble_eq_true rfl | (simp [Value.category, isR_cat kv_isR, isR_cat aref_isR]; done)) (Nat.le_refl _) (Nat.le_refl _) ?_
        refine gx_bipush (v := -3) hC dL_texts_63 bp_m3 ?_
        refine gx_icmp_ne (tgt := 72) hC dL_texts_65 (by decide) (fun c_65 => ?_) (fun c_65 => ?_)
        · first | exact absurd (by rfl) c_65 | exact absurd c_65 (by rfl)
        · refine gx_iconst (v := nI 1) hC dL_texts_68 ic_1n ?_
          refine gx_goto (tgt := 73) hC dL_texts_69 (by decide) ?_
          refine gx_istore (i := 5) (L' := [_, _, _, _, _, _, _, _, _, _, _, _, _, _]) hC dL_texts_73 (Nat.le_of_ble_eq_true rfl) rfl (fun u h9 => by first | exact Or.inl rfl | (cases h9; done) | (right; cases h9; first | rfl | exact isR_cat aref_isR | exact isR_cat kv_isR)) ?_
          refine gx_aload_n (i := 0) hC dL_texts_75 rfl rfl (by first | exact Or.inr ⟨_, rfl⟩ | exact Or.inl rfl) ?_
          refine gx_bipush (v := nI 48) hC dL_texts_76 bp_48n ?_
          refine gx_callV1 hC dL_texts_78 (kh) kY_X6_append kV_X6_append ml_L_46 (by exact h.gs.at0) rfl (by decide) rfl rfl rfl (by first | exact Nat.le_of_ble_eq_true rfl | (simp [Value.category, isR_cat kv_isR, isR_cat aref_isR]; done)) (Nat.le_refl _) (Nat.le_refl _) ?_
          refine gx_pop hC dL_texts_81 (by first | rfl | exact isR_cat kv_isR | exact isR_cat aref_isR) ?_
          refine gx_iload hC dL_texts_82 rfl ?_
          refine gx_if_eq (tgt := 102) hC dL_texts_84 (by decide) (fun c_84 => ?_) (fun c_84 => ?_)
          · first | exact absurd (by decide) c_84 | exact absurd c_84 (by decide)
          · refine gx_aload_n (i := 0) hC dL_texts_87 rfl rfl (by first | exact Or.inr ⟨_, rfl⟩ | exact Or.inl rfl) ?_
            refine gx_callV1 hC dL_texts_88 (ki) kY_X6_faultPosition kV_X6_faultPosition ml_L_59 (by exact h.gs.at0) rfl (by decide) rfl rfl rfl (by first | exact Nat.le_of_ble_eq_true rfl | (simp [Value.category, isR_cat kv_isR, isR_cat aref_isR]; done)) (Nat.le_refl _) (Nat.le_refl _) ?_
            refine gx_iload hC dL_texts_91 rfl ?_
            refine gx_iconst (v := nI 1) hC dL_texts_93 ic_1n ?_
            refine gx_iadd hC dL_texts_94 ?_
            rw [nI_add]
            refine gx_icmp_ne (tgt := 102) hC dL_texts_95 (by decide) (fun c_95 => ?_) (fun c_95 => ?_)
            · first | exact absurd (by rfl) c_95 | exact absurd c_95 (by rfl)
            · refine gx_iconst (v := nI 1) hC dL_texts_98 ic_1n ?_
              refine gx_goto (tgt := 103) hC dL_texts_99 (by decide) ?_
              refine gx_istore (i := 5) (L' := [_, _, _, _, _, _, _, _, _, _, _, _, _, _]) hC dL_texts_103 (Nat.le_of_ble_eq_true rfl) rfl (fun u h9 => by first | exact Or.inl rfl | (cases h9; done) | (right; cases h9; first | rfl | exact isR_cat aref_isR | exact isR_cat kv_isR)) ?_
              refine gx_aload_n (i := 0) hC dL_texts_105 rfl rfl (by first | exact Or.inr ⟨_, rfl⟩ | exact Or.inl rfl) ?_
              refine gx_callV1 hC dL_texts_106 (kj) kY_X6_clearText kV_X6_clearText ml_L_55 (by exact h.gs.at0) rfl (by decide) rfl rfl rfl (by first | exact Nat.le_of_ble_eq_true rfl | (simp [Value.category, isR_cat kv_isR, isR_cat aref_isR]; done)) (Nat.le_refl _) (Nat.le_refl _) ?_
              refine gx_pop hC dL_texts_109 (by first | rfl | exact isR_cat kv_isR | exact isR_cat aref_isR) ?_
              refine gx_aload_n (i := 0) hC dL_texts_110 rfl rfl (by first | exact Or.inr ⟨_, rfl⟩ | exact Or.inl rfl) ?_
              refine gx_iload_n (i := 1) hC dL_texts_111 rfl rfl ?_
              refine gx_iload_n (i := 2) hC dL_texts_112 rfl rfl ?_
              refine gx_iload_n (i := 3) hC dL_texts_113 rfl rfl ?_
              refine gx_callS0 hC dL_texts_114 (kk) kY_L_strip kS_L_strip ml_L_62 (by decide) rfl rfl rfl (by first | exact Nat.le_of_ble_eq_true rfl | (simp [Value.category, isR_cat kv_isR, isR_cat aref_isR]; done)) (Nat.le_refl _) (Nat.le_refl _) ?_
              refine gx_aload_n (i := 0) hC dL_texts_117 rfl rfl (by first | exact Or.inr ⟨_, rfl⟩ | exact Or.inl rfl) ?_
              refine gx_bipush (v := nI 59) hC dL_texts_118 bp_59n ?_
              refine gx_callV1 hC dL_texts_120 (kl1) kY_X6_append kV_X6_append ml_L_46 (by exact h.gs.at0) rfl (by decide) rfl rfl rfl (by first | exact Nat.le_of_ble_eq_true rfl | (simp [Value.category, isR_cat kv_isR, isR_cat aref_isR]; done)) (Nat.le_refl _) (Nat.le_refl _) ?_
              refine gx_pop hC dL_texts_123 (by first | rfl | exact isR_cat kv_isR | exact isR_cat aref_isR) ?_
              refine gx_aload_n (i := 0) hC dL_texts_124 rfl rfl (by first | exact Or.inr ⟨_, rfl⟩ | exact Or.inl rfl) ?_
              refine gx_bipush (v := nI 116) hC dL_texts_125 bp_116n ?_
              refine gx_callV1 hC dL_texts_127 (km) kY_X6_append kV_X6_append ml_L_46 (by exact h.gs.at0) rfl (by decide) rfl rfl rfl (by first | exact Nat.le_of_ble_eq_true rfl | (simp [Value.category, isR_cat kv_isR, isR_cat aref_isR]; done)) (Nat.le_refl _) (Nat.le_refl _) ?_
              refine gx_pop hC dL_texts_130 (by first | rfl | exact isR_cat kv_isR | exact isR_cat aref_isR) ?_
              refine gx_aload_n (i := 0) hC dL_texts_131 rfl rfl (by first | exact Or.inr ⟨_, rfl⟩ | exact Or.inl rfl) ?_
              refine gx_iload hC dL_texts_132 rfl ?_
              refine gx_callS0 hC dL_texts_134 (kn) kY_L_number kS_L_number ml_L_49 (by decide) rfl rfl rfl (by first | exact Nat.le_of_ble_eq_true rfl | (simp [Value.category, isR_cat kv_isR, isR_cat aref_isR]; done)) (Nat.le_refl _) (Nat.le_refl _) ?_
              refine gx_aload_n (i := 0) hC dL_texts_137 rfl rfl (by first | exact Or.inr ⟨_, rfl⟩ | exact Or.inl rfl) ?_
              refine gx_bipush (v := nI 59) hC dL_texts_138 bp_59n ?_
              refine gx_callV1 hC dL_texts_140 (ko) kY_X6_append kV_X6_append ml_L_46 (by exact h.gs.at0) rfl (by decide) rfl rfl rfl (by first | exact Nat.le_of_ble_eq_true rfl | (simp [Value.category, isR_cat kv_isR, isR_cat aref_isR]; done)) (Nat.le_refl _) (Nat.le_refl _) ?_
              refine gx_pop hC dL_texts_143 (by first | rfl | exact isR_cat kv_isR | exact isR_cat aref_isR) ?_
              refine gx_iload hC dL_texts_144 rfl ?_
              refine gx_if_eq (tgt := 175) hC dL_texts_146 (by decide) (fun c_146 => ?_) (fun c_146 => ?_)
              · first | exact absurd (by decide) c_146 | exact absurd c_146 (by decide)
              · refine gx_aload_n (i := 0) hC dL_texts_149 rfl rfl (by first | exact Or.inr ⟨_, rfl⟩ | exact Or.inl rfl) ?_
                refine gx_callV1 hC dL_texts_150 (kp) kY_X6_faultPosition kV_X6_faultPosition ml_L_59 (by exact h.gs.at0) rfl (by decide) rfl rfl rfl (by first | exact Nat.le_of_ble_eq_true rfl | (simp [Value.category, isR_cat kv_isR, isR_cat aref_isR]; done)) (Nat.le_refl _) (Nat.le_refl _) ?_
                refine gx_bipush (v := -6) hC dL_texts_153 bp_m6 ?_
                refine gx_icmp_ne (tgt := 175) hC dL_texts_155 (by decide) (fun c_155 => ?_) (fun c_155 => ?_)
                · first | exact absurd (by rfl) c_155 | exact absurd c_155 (by rfl)
                · refine gx_aload_n (i := 0) hC dL_texts_158 rfl rfl (by first | exact Or.inr ⟨_, rfl⟩ | exact Or.inl rfl) ?_
                  refine gx_iconst (v := nI 1) hC dL_texts_159 ic_1n ?_
                  refine gx_callV1 hC dL_texts_160 (kq) kY_X6_keep kV_X6_keep ml_L_37 (by exact h.gs.at0) rfl (by decide) rfl rfl rfl (by first | exact Nat.le_of_ble_eq_true rfl | (simp [Value.category, isR_cat kv_isR, isR_cat aref_isR]; done)) (Nat.le_refl _) (Nat.le_refl _) ?_
                  refine gx_aload_n (i := 0) hC dL_texts_163 rfl rfl (by first | exact Or.inr ⟨_, rfl⟩ | exact Or.inl rfl) ?_
                  refine gx_iconst (v := nI 0) hC dL_texts_164 ic_0n ?_
                  refine gx_callV1 hC dL_texts_165 (tt0 hq1) kY_X6_tell kV_X6_tell ml_L_9 (by exact h.gs.at0) rfl (by decide) rfl rfl rfl (by first | exact Nat.le_of_ble_eq_true rfl | (simp [Value.category, isR_cat kv_isR, isR_cat aref_isR]; done)) (Nat.le_refl _) (Nat.le_refl _) ?_
                  refine gx_icmp_ne (tgt := 175) hC dL_texts_168 (by decide) (fun c_168 => ?_) (fun c_168 => ?_)
                  · first | exact absurd (by rfl) c_168 | exact absurd c_168 (by rfl)
                  · refine gx_iconst (v := nI 1) hC dL_texts_171 ic_1n ?_
                    refine gx_goto (tgt := 176) hC dL_texts_172 (by decide) ?_
                    refine gx_istore (i := 5) (L' := [_, _, _, _, _, _, _, _, _, _, _, _, _, _]) hC dL_texts_176 (Nat.le_of_ble_eq_true rfl) rfl (fun u h9 => by first | exact Or.inl rfl | (cases h9; done) | (right; cases h9; first | rfl | exact isR_cat aref_isR | exact isR_cat kv_isR)) ?_
                    refine gx_aload_n (i := 0) hC dL_texts_178 rfl rfl (by first | exact Or.inr ⟨_, rfl⟩ | exact Or.inl rfl) ?_
                    refine gx_iconst (v := nI 0) hC dL_texts_179 ic_0n ?_
                    refine gx_callV1 hC dL_texts_180 (tt0 hq1) kY_X6_tell kV_X6_tell ml_L_9 (by exact h.gs.at0) rfl (by decide) rfl rfl rfl (by first | exact Nat.le_of_ble_eq_true rfl | (simp [Value.category, isR_cat kv_isR, isR_cat aref_isR]; done)) (Nat.le_refl _) (Nat.le_refl _) ?_
                    refine gx_istore (i := 7) (L' := [_, _, _, _, _, _, _, _, _, _, _, _, _, _]) hC dL_texts_183 (Nat.le_of_ble_eq_true rfl) rfl (fun u h9 => by first | exact Or.inl rfl | (cases h9; done) | (right; cases h9; first | rfl | exact isR_cat aref_isR | exact isR_cat kv_isR)) ?_
                    refine gx_aload_n (i := 0) hC dL_texts_185 rfl rfl (by first | exact Or.inr ⟨_, rfl⟩ | exact Or.inl rfl) ?_
                    refine gx_iconst (v := nI 3) hC dL_texts_186 ic_3n ?_
                    refine gx_callV1 hC dL_texts_187 (tt3 hq1) kY_X6_tell kV_X6_tell ml_L_9 (by exact h.gs.at0) rfl (by decide) rfl rfl rfl (by first | exact Nat.le_of_ble_eq_true rfl | (simp [Value.category, isR_cat kv_isR, isR_cat aref_isR]; done)) (Nat.le_refl _) (Nat.le_refl _) ?_
                    refine gx_istore (i := 8) (L' := [_, _, _, _, _, _, _, _, _, _, _, _, _, _]) hC dL_texts_190 (Nat.le_of_ble_eq_true rfl) rfl (fun u h9 => by first | exact Or.inl rfl | (cases h9; done) | (right; cases h9; first | rfl | exact isR_cat aref_isR | exact isR_cat kv_isR)) ?_
                    refine gx_aload_n (i := 0) hC dL_texts_192 rfl rfl (by first | exact Or.inr ⟨_, rfl⟩ | exact Or.inl rfl) ?_
                    refine gx_callV1 hC dL_texts_193 (kr) kY_X6_run kV_X6_run ml_L_66 (by exact h.gs.at0) rfl (by decide) rfl rfl rfl (by first | exact Nat.le_of_ble_eq_true rfl | (simp [Value.category, isR_cat kv_isR, isR_cat aref_isR]; done)) (Nat.le_refl _) (Nat.le_refl _) ?_
                    refine gx_istore (i := 9) (L' := [_, _, _, _, _, _, _, _, _, _, _, _, _, _]) hC dL_texts_196 (Nat.le_of_ble_eq_true rfl) rfl (fun u h9 => by first | exact Or.inl rfl | (cases h9; done) | (right; cases h9; first | rfl | exact isR_cat aref_isR | exact isR_cat kv_isR)) ?_
                    refine gx_aload_n (i := 0) hC dL_texts_198 rfl rfl (by first | exact Or.inr ⟨_, rfl⟩ | exact Or.inl rfl) ?_
                    refine gx_bipush (v := nI 16) hC dL_texts_199 bp_16n ?_
                    refine gx_callV1 hC dL_texts_201 (tt16 hr) kY_X6_tell kV_X6_tell ml_L_9 (by exact h.gs.at0) rfl (by decide) rfl rfl rfl (by first | exact Nat.le_of_ble_eq_true rfl | (simp [Value.category, isR_cat kv_isR, isR_cat aref_isR]; done)) (Nat.le_refl _) (Nat.le_refl _) ?_
                    refine gx_istore (i := 10) (L' := [_, _, _, _, _, _, _, _, _, _, _, _, _, _]) hC dL_texts_204 (Nat.le_of_ble_eq_true rfl) rfl (fun u h9 => by first | exact Or.inl rfl | (cases h9; done) | (right; cases h9; first | rfl | exact isR_cat aref_isR | exact isR_cat kv_isR)) ?_
                    refine gx_aload_n (i := 0) hC dL_texts_206 rfl rfl (by first | exact Or.inr ⟨_, rfl⟩ | exact Or.inl rfl) ?_
                    refine gx_bipush (v := nI 13) hC dL_texts_207 bp_13n ?_
                    refine gx_callV1 hC dL_texts_209 (tt13 hr) kY_X6_tell kV_X6_tell ml_L_9 (by exact h.gs.at0) rfl (by decide) rfl rfl rfl (by first | exact Nat.le_of_ble_eq_true rfl | (simp [Value.category, isR_cat kv_isR, isR_cat aref_isR]; done)) (Nat.le_refl _) (Nat.le_refl _) ?_
                    refine gx_istore (i := 11) (L' := [_, _, _, _, _, _, _, _, _, _, _, _, _, _]) hC dL_texts_212 (Nat.le_of_ble_eq_true rfl) rfl (fun u h9 => by first | exact Or.inl rfl | (cases h9; done) | (right; cases h9; first | rfl | exact isR_cat aref_isR | exact isR_cat kv_isR)) ?_
                    refine gx_aload_n (i := 0) hC dL_texts_214 rfl rfl (by first | exact Or.inr ⟨_, rfl⟩ | exact Or.inl rfl) ?_
                    refine gx_bipush (v := nI 7) hC dL_texts_215 bp_7n ?_
                    refine gx_callV1 hC dL_texts_217 (tt7 hr) kY_X6_tell kV_X6_tell ml_L_9 (by exact h.gs.at0) rfl (by decide) rfl rfl rfl (by first | exact Nat.le_of_ble_eq_true rfl | (simp [Value.category, isR_cat kv_isR, isR_cat aref_isR]; done)) (Nat.le_refl _) (Nat.le_refl _) ?_
                    refine gx_istore (i := 12) (L' := [_, _, _, _, _, _, _, _, _, _, _, _, _, _]) hC dL_texts_220 (Nat.le_of_ble_eq_true rfl) rfl (fun u h9 => by first | exact Or.inl rfl | (cases h9; done) | (right; cases h9; first | rfl | exact isR_cat aref_isR | exact isR_cat kv_isR)) ?_
                    refine gx_iload hC dL_texts_222 rfl ?_
                    refine gx_if_eq (tgt := 312) hC dL_texts_224 (by decide) (fun c_224 => ?_) (fun c_224 => ?_)
                    · first | exact absurd (by decide) c_224 | exact absurd c_224 (by decide)
                    · refine gx_iload hC dL_texts_227 rfl ?_
                      refine gx_iconst (v := nI 2) hC dL_texts_229 ic_2n ?_
                      refine gx_icmp_ne (tgt := 266) hC dL_texts_230 (by decide) (fun c_230 => ?_) (fun c_230 => ?_)
                      · refine gx_iload hC dL_texts_266 rfl ?_
                        refine gx_if_ne (tgt := 312) hC dL_texts_268 (by decide) (fun c_268 => ?_) (fun c_268 => ?_)
                        · first | exact absurd (by rfl) c_268 | exact absurd c_268 (by rfl)
                        · refine gx_aload_n (i := 0) hC dL_texts_271 rfl rfl (by first | exact Or.inr ⟨_, rfl⟩ | exact Or.inl rfl) ?_
                          refine gx_iconst (v := nI 0) hC dL_texts_272 ic_0n ?_
                          refine gx_callV1 hC dL_texts_273 (tt0 hr) kY_X6_tell kV_X6_tell ml_L_9 (by exact h.gs.at0) rfl (by decide) rfl rfl rfl (by first | exact Nat.le_of_ble_eq_true rfl | (simp [Value.category, isR_cat kv_isR, isR_cat aref_isR]; done)) (Nat.le_refl _) (Nat.le_refl _) ?_
                          refine gx_iload hC dL_texts_276 rfl ?_
                          refine gx_icmp_ne (tgt := 312) hC dL_texts_278 (by decide) (fun c_278 => ?_) (fun c_278 => ?_)
                          · first | exact absurd (by exact upd_n (k := 13) (j := 0) (by decide)) c_278 | exact absurd c_278 (by exact upd_n (k := 13) (j := 0) (by decide))
                          · refine gx_aload_n (i := 0) hC dL_texts_281 rfl rfl (by first | exact Or.inr ⟨_, rfl⟩ | exact Or.inl rfl) ?_
                            refine gx_iconst (v := nI 3) hC dL_texts_282 ic_3n ?_
                            refine gx_callV1 hC dL_texts_283 (tt3 hr) kY_X6_tell kV_X6_tell ml_L_9 (by exact h.gs.at0) rfl (by decide) rfl rfl rfl (by first | exact Nat.le_of_ble_eq_true rfl | (simp [Value.category, isR_cat kv_isR, isR_cat aref_isR]; done)) (Nat.le_refl _) (Nat.le_refl _) ?_
                            refine gx_iload hC dL_texts_286 rfl ?_
                            refine gx_icmp_ne (tgt := 312) hC dL_texts_288 (by decide) (fun c_288 => ?_) (fun c_288 => ?_)
                            · first | exact absurd (by rfl) c_288 | exact absurd c_288 (by rfl)
                            · refine gx_aload_n (i := 0) hC dL_texts_291 rfl rfl (by first | exact Or.inr ⟨_, rfl⟩ | exact Or.inl rfl) ?_
                              refine gx_callV1 hC dL_texts_292 (ks) kY_X6_undo kV_X6_undo ml_L_69 (by exact h.gs.at0) rfl (by decide) rfl rfl rfl (by first | exact Nat.le_of_ble_eq_true rfl | (simp [Value.category, isR_cat kv_isR, isR_cat aref_isR]; done)) (Nat.le_refl _) (Nat.le_refl _) ?_
                              refine gx_if_lt (tgt := 312) hC dL_texts_295 (by decide) (fun c_295 => ?_) (fun c_295 => ?_)
                              · first | exact absurd (by exact nI_pos (by omega)) c_295 | exact absurd c_295 (by exact nI_pos (by omega))
                              · refine gx_aload_n (i := 0) hC dL_texts_298 rfl rfl (by first | exact Or.inr ⟨_, rfl⟩ | exact Or.inl rfl) ?_
                                refine gx_iconst (v := nI 0) hC dL_texts_299 ic_0n ?_
                                refine gx_callV1 hC dL_texts_300 (tt0 hs1) kY_X6_tell kV_X6_tell ml_L_9 (by exact h.gs.at0) rfl (by decide) rfl rfl rfl (by first | exact Nat.le_of_ble_eq_true rfl | (simp [Value.category, isR_cat kv_isR, isR_cat aref_isR]; done)) (Nat.le_refl _) (Nat.le_refl _) ?_
                                refine gx_iload hC dL_texts_303 rfl ?_
                                refine gx_icmp_ne (tgt := 312) hC dL_texts_305 (by decide) (fun c_305 => ?_) (fun c_305 => ?_)
                                · first | exact absurd (by rfl) c_305 | exact absurd c_305 (by rfl)
                                · refine gx_iconst (v := nI 1) hC dL_texts_308 ic_1n ?_
                                  refine gx_goto (tgt := 313) hC dL_texts_309 (by decide) ?_
                                  refine gx_istore (i := 5) (L' := [_, _, _, _, _, _, _, _, _, _, _, _, _, _]) hC dL_texts_313 (Nat.le_of_ble_eq_true rfl) rfl (fun u h9 => by first | exact Or.inl rfl | (cases h9; done) | (right; cases h9; first | rfl | exact isR_cat aref_isR | exact isR_cat kv_isR)) ?_
                                  refine gx_aload_n (i := 0) hC dL_texts_315 rfl rfl (by first | exact Or.inr ⟨_, rfl⟩ | exact Or.inl rfl) ?_
                                  refine gx_iload_n (i := 1) hC dL_texts_316 rfl rfl ?_
                                  refine gx_iload_n (i := 2) hC dL_texts_317 rfl rfl ?_
                                  refine gx_iload_n (i := 3) hC dL_texts_318 rfl rfl ?_
                                  refine gx_callV1 hC dL_texts_319 (kt) kY_X6_enter kV_X6_enter ml_L_72 (by exact h.gs.at0) rfl (by decide) rfl rfl rfl (by first | exact Nat.le_of_ble_eq_true rfl | (simp [Value.category, isR_cat kv_isR, isR_cat aref_isR]; done)) (Nat.le_refl _) (Nat.le_refl _) ?_
                                  refine gx_istore (i := 13) (L' := [_, _, _, _, _, _, _, _, _, _, _, _, _, _]) hC dL_texts_322 (Nat.le_of_ble_eq_true rfl) rfl (fun u h9 => by first | exact Or.inl rfl | (cases h9; done) | (right; cases h9; first | rfl | exact isR_cat aref_isR | exact isR_cat kv_isR)) ?_
                                  refine gx_iload hC dL_texts_324 rfl ?_
                                  refine gx_if_eq (tgt := 403) hC dL_texts_326 (by decide) (fun c_326 => ?_) (fun c_326 => ?_)
                                  · first | exact absurd (by decide) c_326 | exact absurd c_326 (by decide)
                                  · refine gx_iload hC dL_texts_329 rfl ?_
                                    refine gx_iconst (v := nI 2) hC dL_texts_331 ic_2n ?_
                                    refine gx_icmp_ne (tgt := 376) hC dL_texts_332 (by decide) (fun c_332 => ?_) (fun c_332 => ?_)
                                    · refine gx_iload hC dL_texts_376 rfl ?_
                                      refine gx_if_ge (tgt := 403) hC dL_texts_378 (by decide) (fun c_378 => ?_) (fun c_378 => ?_)
                                      · first | exact absurd (by decide) c_378 | exact absurd c_378 (by decide)
                                      · refine gx_iload hC dL_texts_381 rfl ?_
                                        refine gx_bipush (v := -5) hC dL_texts_383 bp_m5 ?_
                                        refine gx_icmp_ne (tgt := 399) hC dL_texts_385 (by decide) (fun c_385 => ?_) (fun c_385 => ?_)
                                        · first | exact absurd (by rfl) c_385 | exact absurd c_385 (by rfl)
                                        · refine gx_aload_n (i := 0) hC dL_texts_388 rfl rfl (by first | exact Or.inr ⟨_, rfl⟩ | exact Or.inl rfl) ?_
                                          refine gx_bipush (v := nI 16) hC dL_texts_389 bp_16n ?_
                                          refine gx_callV1 hC dL_texts_391 (tt16 ht1) kY_X6_tell kV_X6_tell ml_L_9 (by exact h.gs.at0) rfl (by decide) rfl rfl rfl (by first | exact Nat.le_of_ble_eq_true rfl | (simp [Value.category, isR_cat kv_isR, isR_cat aref_isR]; done)) (Nat.le_refl _) (Nat.le_refl _) ?_
                                          refine gx_iload hC dL_texts_394 rfl ?_
                                          refine gx_icmp_ne (tgt := 403) hC dL_texts_396 (by decide) (fun c_396 => ?_) (fun c_396 => ?_)
                                          · first | exact absurd (by rfl) c_396 | exact absurd c_396 (by rfl)
                                          · refine gx_iconst (v := nI 1) hC dL_texts_399 ic_1n ?_
                                            refine gx_goto (tgt := 404) hC dL_texts_400 (by decide) ?_
                                            exact gx_zret hC hQ dL_texts_404 (by first | exact Or.inl rfl | exact Or.inr rfl | exact b2_bit _ | assumption) (rfl) (rfl) rfl
                                    · first | exact absurd (by decide) c_332 | exact absurd c_332 (by decide)
                      · first | exact absurd (by decide) c_230 | exact absurd c_230 (by decide)
set_option maxHeartbeats 4000000 in
set_option maxRecDepth 20000 in
theorem u_textsA (l : Launch) (z : hZt) {M : hMem} {R : hRef} {v : gRow} {lv c q T k fu le m : Nat} {H : Nat → gRow} {K : Nat → Option gRow} (h : PI M R v lv c q H K) (hq : QQ v c T) (hk : k < 3) (h1 : 1 ≤ fu) (hfu : fu ≤ 900) (hle : le < lv) (hm1 : 1 ≤ m) (hm : m ≤ 40) (hc2 : c < 20) (hA : mRf v c (nI k) (nI fu) (nI le) = 0) : ∃ M9 R9 w9 c9 q9 H9, hCt l z m_L_texts [.ref (z.1 + 0), .int (nI k), .int (nI fu), .int (nI le), .int (nI m)] 215 M R 215 (some (.int 1)) M9 R9 ∧ PI M9 R9 w9 lv c9 q9 H9 (fun x => if x = 1 then some v else K x) ∧ QQ w9 c9 (T + m) ∧ c ≤ c9 := by
  have c20 := h.sw.c20
  have l16 := h.sw.l16
  have hs := sL_l (k := k) (fu := fu) (le := le)
  have d1 := dg_l (n := fu)
  have d2 := dg_l2 (n := le) (by omega)
  have d3 := dg_l2 (n := m) (by omega)
  have hl15 : le ≤ 15 := by omega
  have so : cOk (sL k fu le) := sL_ok (by omega) (by omega)
  have n1 : (sL k fu le ++ [59]).length = (sL k fu le).length + 1 := by rw [List.length_append]; rfl
  have n2 : (sL k fu le ++ [59, 116]).length = (sL k fu le).length + 2 := by rw [List.length_append]; rfl
  have n3 : (sL k fu le ++ [59, 116, 48]).length = (sL k fu le).length + 3 := by rw [List.length_append]; rfl
  have ng := gT_l (k := k) (fu := fu) (le := le) (m := m)
  have og : cOk (gT k fu le m) := so.app (cOk.cons (by decide) (cOk.cons (by decide) ((dg_ok (by omega)).app (cOk.cons (by decide) cOk.nil))))
  obtain ⟨aa, Ma, ka, ha, ta⟩ := t_clear (l := l) (z := z) h
  obtain ⟨Mb, kb, hb, tb⟩ := t_fault (l := l) (z := z) ha ta cOk.nil (by decide) (a := -6) (if_pos rfl)
  have kc := u_strip l z hb.gs (ln := 0) tb.1 (by decide) hk (show fu ≤ 999 by omega) (show le ≤ 999 by omega)
  have hc := hb.apl (ln := 0) (sL k fu le)
  have tc : TX (apL Mb 0 (sL k fu le)) (sL k fu le) := TX.app (sL k fu le) tb
  obtain ⟨Md, kd, hd, td⟩ := t_app (l := l) (z := z) hc tc (by omega) (x := 59) (by decide) (by decide)
  obtain ⟨Me, ke, he, te⟩ := t_app (l := l) (z := z) hd td (by omega) (x := 116) (by decide) (by decide)
  rw [List.append_assoc] at te
  have te : TX Me (sL k fu le ++ [59, 116]) := te
  obtain ⟨Mf, kf, hf1, tf⟩ := t_fault (l := l) (z := z) he te (so.app (cOk.cons (by decide) (cOk.cons (by decide) cOk.nil))) (by omega) (a := nI ((sL k fu le).length + 2)) (by rw [n2, fx_a te hk h1 (by omega) hl15]; exact if_neg (show ¬ false = true by decide))
  obtain ⟨Mg, kg, hg, tg⟩ := t_run0 (l := l) (z := z) hf1 tf (so.app (cOk.cons (by decide) (cOk.cons (by decide) cOk.nil))) (by omega) (by rw [n2, fx_a tf hk h1 (by omega) hl15]; exact show ¬ false = true by decide)
  obtain ⟨Mh, kh, hh, th⟩ := t_app (l := l) (z := z) hg tg (by omega) (x := 48) (by decide) (by decide)
  rw [List.append_assoc] at th
  have th : TX Mh (sL k fu le ++ [59, 116, 48]) := th
  obtain ⟨Mi, ki, hi, ti⟩ := t_fault (l := l) (z := z) hh th (so.app (cOk.cons (by decide) (cOk.cons (by decide) (cOk.cons (by decide) cOk.nil)))) (by omega) (a := nI ((sL k fu le).length + 2)) (by rw [n3, fx_b th hk h1 (by omega) hl15]; exact if_neg (show ¬ false = true by decide))
  obtain ⟨ab, Mj, kj, hj, tj⟩ := t_clear (l := l) (z := z) hi
  have kk := u_strip l z hj.gs (ln := 0) tj.1 (by decide) hk (show fu ≤ 999 by omega) (show le ≤ 999 by omega)
  have hkk := hj.apl (ln := 0) (sL k fu le)
  have tk : TX (apL Mj 0 (sL k fu le)) (sL k fu le) := TX.app (sL k fu le) tj
  obtain ⟨Ml, kl1, hl1, tl⟩ := t_app (l := l) (z := z) hkk tk (by omega) (x := 59) (by decide) (by decide)
  obtain ⟨Mm, km, hm2, tm⟩ := t_app (l := l) (z := z) hl1 tl (by omega) (x := 116) (by decide) (by decide)
  rw [List.append_assoc] at tm
  have tm : TX Mm (sL k fu le ++ [59, 116]) := tm
  have kn := u_number l z hm2.gs (ln := (sL k fu le ++ [59, 116]).length) tm.1 (by omega) (show m ≤ 999 by omega)
  have hn := hm2.apl (ln := (sL k fu le ++ [59, 116]).length) (dg m)
  have tn := TX.app (dg m) tm
  obtain ⟨Mo, ko, ho, to⟩ := t_app (l := l) (z := z) hn tn (by rw [List.length_append]; omega) (x := 59) (by decide) (by decide)
  rw [List.append_assoc, List.append_assoc] at to
  have to : TX Mo (gT k fu le m) := to
  obtain ⟨Mp, kp, hp, tp⟩ := t_fault (l := l) (z := z) ho to og (by omega) (a := -6) (by rw [ng]; exact if_pos (fx_g to hk h1 (by omega) hl15 hm1 (by omega)))
  obtain ⟨Mq, kq, hq1, eq⟩ := t_keepx (l := l) (z := z) hp (i := 1) (by decide)
  have tq : TX Mq (gT k fu le m) := ⟨(eq 213 1 (by decide)).trans tp.1, fun p hp => (eq 214 p (by decide)).trans (tp.2 p hp)⟩
  obtain ⟨Mr, Rr, kr, hr⟩ := t_runx (l := l) (z := z) hq1 tq og (by omega) (by rw [ng]; exact fx_g tq hk h1 (by omega) hl15 hm1 (by omega))
  rw [ng] at kr hr
  have ew := mEw_f hq1 (hk_n hk) h1 (show fu ≤ 9999 by omega) hle
  obtain ⟨r1, r2, r3⟩ := ru_2 (lv := lv) (c := c) (v := v) tq hk h1 (show fu ≤ 999 by omega) hl15 hm1 (show m ≤ 99 by omega)
  have dd : ¬ mEw v (nI k) (nI fu) (nI le) < 0 := by rw [ew, if_neg (by omega)]; decide
  obtain ⟨x1, x2, x3⟩ := r3 dd (by rw [hA]; decide)
  rw [x1] at kr
  rw [x2, x3] at hr
  obtain ⟨Ms, ks, hs1⟩ := t_undo (l := l) (z := z) hr (Nat.succ_pos _) (w := v) (by rw [Nat.add_sub_cancel]; exact hPu_top h.q5) h.rl.wv.mw.lv h.rl.wv.mw.ct l16 c20
  obtain ⟨ae, Mt, Rt, wt, ct, qt, Ht, kt, ht1, hcs⟩ := t_enter (l := l) (z := z) hs1 (hk_n hk) h1 (show fu ≤ 9999 by omega) hle
  obtain ⟨rfl, rfl, rfl⟩ : ae = nI c ∧ wt = mEn v c (nI k) (nI fu) (nI le) ∧ ct = c + 1 := by
    rcases hcs with ⟨e1, e2, e3, e4⟩ | ⟨e1, e2, e3, e4, e5⟩ | ⟨e1, e2, e3, e4, e5⟩
    · omega
    · rw [hA] at e2; exact absurd e2 (by decide)
    · exact ⟨e3, e4, e5⟩
  obtain ⟨Mu, Ru, ku, hu1⟩ := t_pass (l := l) (z := z) ht1 hm1 (show m ≤ 99 by omega)
  obtain ⟨gk, hgk, egk⟩ := mGc_n (v := mEn v c (nI k) (nI fu) (nI le)) (lv := lv) (c := c + 1) m
  refine ⟨Mu, Ru, _, _, _, _, ?_, hu1, hq.en.go ht1.rl m, Nat.le_succ _⟩
  refine hs_start [some (.ref (z.1 + 0)), some (.int (nI k)), some (.int (nI fu)), some (.int (nI le)), some (.int (nI m)), none, none, none, none, none, none, none, none, none] (by decide +kernel) rfl (by intro u hu; simp at hu; rcases hu with rfl | rfl | rfl | rfl | rfl <;> first | rfl | exact isR_cat kv_isR | exact isR_cat aref_isR) (Nat.le_of_ble_eq_true rfl) (Nat.le_refl _) (fun X hlX hN hC hQ => ?_)
  dsimp only at hC hQ
  subst hlX
  refine gx_aload_n (i := 0) hC dL_texts_0 rfl rfl (by first | exact Or.inr ⟨_, rfl⟩ | exact Or.inl rfl) ?_
  refine gx_callV1 hC dL_texts_1 (ka) kY_X6_clearText kV_X6_clearText ml_L_55 (by exact h.gs.at0) rfl (by decide) rfl rfl rfl (by first | exact Nat.le_of_ble_eq_true rfl | (simp [Value.category, isR_cat kv_isR, isR_cat aref_isR]; done)) (Nat.le_refl _) (Nat.le_refl _) ?_
  refine gx_pop hC dL_texts_4 (by first | rfl | exact isR_cat kv_isR | exact isR_cat aref_isR) ?_
  refine gx_aload_n (i := 0) hC dL_texts_5 rfl rfl (by first | exact Or.inr ⟨_, rfl⟩ | exact Or.inl rfl) ?_
  refine gx_callV1 hC dL_texts_6 (kb) kY_X6_faultPosition kV_X6_faultPosition ml_L_59 (by exact h.gs.at0) rfl (by decide) rfl rfl rfl (by first | exact Nat.le_of_ble_eq_true rfl | (simp [Value.category, isR_cat kv_isR, isR_cat aref_isR]; done)) (Nat.le_refl _) (Nat.le_refl _) ?_
  refine gx_bipush (v := -6) hC dL_texts_9 bp_m6 ?_
  refine gx_icmp_ne (tgt := 18) hC dL_texts_11 (by decide) (fun c_11 => ?_) (fun c_11 => ?_)
  · first | exact absurd (by rfl) c_11 | exact absurd c_11 (by rfl)
  · refine gx_iconst (v := nI 1) hC dL_texts_14 ic_1n ?_
    refine gx_goto (tgt := 19) hC dL_texts_15 (by decide) ?_
    refine gx_istore (i := 5) (L' := [_, _, _, _, _, _, _, _, _, _, _, _, _, _]) hC dL_texts_19 (Nat.le_of_ble_eq_true rfl) rfl (fun u h9 => by first | exact Or.inl rfl | (cases h9; done) | (right; cases h9; first | rfl | exact isR_cat aref_isR | exact isR_cat kv_isR)) ?_
    refine gx_aload_n (i := 0) hC dL_texts_21 rfl rfl (by first | exact Or.inr ⟨_, rfl⟩ | exact Or.inl rfl) ?_
    refine gx_iload_n (i := 1) hC dL_texts_22 rfl rfl ?_
    refine gx_iload_n (i := 2) hC dL_texts_23 rfl rfl ?_
    refine gx_iload_n (i := 3) hC dL_texts_24 rfl rfl ?_
    refine gx_callS0 hC dL_texts_25 (kc) kY_L_strip kS_L_strip ml_L_62 (by decide) rfl rfl rfl (by first | exact Nat.le_of_ble_eq_true rfl | (simp [Value.category, isR_cat kv_isR, isR_cat aref_isR]; done)) (Nat.le_refl _) (Nat.le_refl _) ?_
    refine gx_aload_n (i := 0) hC dL_texts_28 rfl rfl (by first | exact Or.inr ⟨_, rfl⟩ | exact Or.inl rfl) ?_
    refine gx_bipush (v := nI 59) hC dL_texts_29 bp_59n ?_
    refine gx_callV1 hC dL_texts_31 (kd) kY_X6_append kV_X6_append ml_L_46 (by exact h.gs.at0) rfl (by decide) rfl rfl rfl (by first | exact Nat.le_of_ble_eq_true rfl | (simp [Value.category, isR_cat kv_isR, isR_cat aref_isR]; done)) (Nat.le_refl _) (Nat.le_refl _) ?_
    refine gx_istore (i := 6) (L' := [_, _, _, _, _, _, _, _, _, _, _, _, _, _]) hC dL_texts_34 (Nat.le_of_ble_eq_true rfl) rfl (fun u h9 => by first | exact Or.inl rfl | (cases h9; done) | (right; cases h9; first | rfl | exact isR_cat aref_isR | exact isR_cat kv_isR)) ?_
    refine gx_aload_n (i := 0) hC dL_texts_36 rfl rfl (by first | exact Or.inr ⟨_, rfl⟩ | exact Or.inl rfl) ?_
    refine gx_bipush (v := nI 116) hC dL_texts_37 bp_116n ?_
    refine gx_callV1 hC dL_texts_39 (ke) kY_X6_append kV_X6_append ml_L_46 (by exact h.gs.at0) rfl (by decide) rfl rfl rfl (by first | exact Nat.le_of_ble_eq_true rfl | (simp [Value.category, isR_cat kv_isR, isR_cat aref_isR]; done)) (Nat.le_refl _) (Nat.le_refl _) ?_
    refine gx_pop hC dL_texts_42 (by first | rfl | exact isR_cat kv_isR | exact isR_cat aref_isR) ?_
    refine gx_iload hC dL_texts_43 rfl ?_
    refine gx_if_eq (tgt := 72) hC dL_texts_45 (by decide) (fun c_45 => ?_) (fun c_45 => ?_)
    · first | exact absurd (by decide) c_45 | exact absurd c_45 (by decide)
    · refine gx_aload_n (i := 0) hC dL_texts_48 rfl rfl (by first | exact Or.inr ⟨_, rfl⟩ | exact Or.inl rfl) ?_
      refine gx_callV1 hC dL_texts_49 (kf) kY_X6_faultPosition kV_X6_faultPosition ml_L_59 (by exact h.gs.at0) rfl (by decide) rfl rfl rfl (by first | exact Nat.le_of_ble_eq_true rfl | (simp [Value.category, isR_cat kv_isR, isR_cat aref_isR]; done)) (Nat.le_refl _) (Nat.le_refl _) ?_
      refine gx_iload hC dL_texts_52 rfl ?_
      refine gx_iconst (v := nI 1) hC dL_texts_54 ic_1n ?_
      refine gx_iadd hC dL_texts_55 ?_
      rw [nI_add]
      refine gx_icmp_ne (tgt := 72) hC dL_texts_56 (by decide) (fun c_56 => ?_) (fun c_56 => ?_)
      · first | exact absurd (by rfl) c_56 | exact absurd c_56 (by rfl)
      · refine gx_aload_n (i := 0) hC dL_texts_59 rfl rfl (by first | exact Or.inr ⟨_, rfl⟩ | exact Or.inl rfl) ?_
        refine gx_callV1 hC dL_texts_60 (kg) kY_X6_run kV_X6_run ml_L_66 (by exact h.gs.at0) rfl (by decide) rfl rfl rfl (by first | exact Nat.le_of_ble_eq_true rfl | (simp [Value.category, isR_cat kv_isR, isR_cat aref_isR]; done)) (Nat.le_refl _) (Nat.le_refl _) ?_
        refine gx_bipush (v := -3) hC dL_texts_63 bp_m3 ?_
        refine gx_icmp_ne (tgt := 72) hC dL_texts_65 (by decide) (fun c_65 => ?_) (fun c_65 => ?_)
        · first | exact absurd (by rfl) c_65 | exact absurd c_65 (by rfl)
        · refine gx_iconst (v := nI 1) hC dL_texts_68 ic_1n ?_
          refine gx_goto (tgt := 73) hC dL_texts_69 (by decide) ?_
          refine gx_istore (i := 5) (L' := [_, _, _, _, _, _, _, _, _, _, _, _, _, _]) hC dL_texts_73 (Nat.le_of_ble_eq_true rfl) rfl (fun u h9 => by first | exact Or.inl rfl | (cases h9; done) | (right; cases h9; first | rfl | exact isR_cat aref_isR | exact isR_cat kv_isR)) ?_
          refine gx_aload_n (i := 0) hC dL_texts_75 rfl rfl (by first | exact Or.inr ⟨_, rfl⟩ | exact Or.inl rfl) ?_
          refine gx_bipush (v := nI 48) hC dL_texts_76 bp_48n ?_
          refine gx_callV1 hC dL_texts_78 (kh) kY_X6_append kV_X6_append ml_L_46 (by exact h.gs.at0) rfl (by decide) rfl rfl rfl (by first | exact Nat.le_of_ble_eq_true rfl | (simp [Value.category, isR_cat kv_isR, isR_cat aref_isR]; done)) (Nat.le_refl _) (Nat.le_refl _) ?_
          refine gx_pop hC dL_texts_81 (by first | rfl | exact isR_cat kv_isR | exact isR_cat aref_isR) ?_
          refine gx_iload hC dL_texts_82 rfl ?_
          refine gx_if_eq (tgt := 102) hC dL_texts_84 (by decide) (fun c_84 => ?_) (fun c_84 => ?_)
          · first | exact absurd (by decide) c_84 | exact absurd c_84 (by decide)
          · refine gx_aload_n (i := 0) hC dL_texts_87 rfl rfl (by first | exact Or.inr ⟨_, rfl⟩ | exact Or.inl rfl) ?_
            refine gx_callV1 hC dL_texts_88 (ki) kY_X6_faultPosition kV_X6_faultPosition ml_L_59 (by exact h.gs.at0) rfl (by decide) rfl rfl rfl (by first | exact Nat.le_of_ble_eq_true rfl | (simp [Value.category, isR_cat kv_isR, isR_cat aref_isR]; done)) (Nat.le_refl _) (Nat.le_refl _) ?_
            refine gx_iload hC dL_texts_91 rfl ?_
            refine gx_iconst (v := nI 1) hC dL_texts_93 ic_1n ?_
            refine gx_iadd hC dL_texts_94 ?_
            rw [nI_add]
            refine gx_icmp_ne (tgt := 102) hC dL_texts_95 (by decide) (fun c_95 => ?_) (fun c_95 => ?_)
            · first | exact absurd (by rfl) c_95 | exact absurd c_95 (by rfl)
            · refine gx_iconst (v := nI 1) hC dL_texts_98 ic_1n ?_
              refine gx_goto (tgt := 103) hC dL_texts_99 (by decide) ?_
              refine gx_istore (i := 5) (L' := [_, _, _, _, _, _, _, _, _, _, _, _, _, _]) hC dL_texts_103 (Nat.le_of_ble_eq_true rfl) rfl (fun u h9 => by first | exact Or.inl rfl | (cases h9; done) | (right; cases h9; first | rfl | exact isR_cat aref_isR | exact isR_cat kv_isR)) ?_
              refine gx_aload_n (i := 0) hC dL_texts_105 rfl rfl (by first | exact Or.inr ⟨_, rfl⟩ | exact Or.inl rfl) ?_
              refine gx_callV1 hC dL_texts_106 (kj) kY_X6_clearText kV_X6_clearText ml_L_55 (by exact h.gs.at0) rfl (by decide) rfl rfl rfl (by first | exact Nat.le_of_ble_eq_true rfl | (simp [Value.category, isR_cat kv_isR, isR_cat aref_isR]; done)) (Nat.le_refl _) (Nat.le_refl _) ?_
              refine gx_pop hC dL_texts_109 (by first | rfl | exact isR_cat kv_isR | exact isR_cat aref_isR) ?_
              refine gx_aload_n (i := 0) hC dL_texts_110 rfl rfl (by first | exact Or.inr ⟨_, rfl⟩ | exact Or.inl rfl) ?_
              refine gx_iload_n (i := 1) hC dL_texts_111 rfl rfl ?_
              refine gx_iload_n (i := 2) hC dL_texts_112 rfl rfl ?_
              refine gx_iload_n (i := 3) hC dL_texts_113 rfl rfl ?_
              refine gx_callS0 hC dL_texts_114 (kk) kY_L_strip kS_L_strip ml_L_62 (by decide) rfl rfl rfl (by first | exact Nat.le_of_ble_eq_true rfl | (simp [Value.category, isR_cat kv_isR, isR_cat aref_isR]; done)) (Nat.le_refl _) (Nat.le_refl _) ?_
              refine gx_aload_n (i := 0) hC dL_texts_117 rfl rfl (by first | exact Or.inr ⟨_, rfl⟩ | exact Or.inl rfl) ?_
              refine gx_bipush (v := nI 59) hC dL_texts_118 bp_59n ?_
              refine gx_callV1 hC dL_texts_120 (kl1) kY_X6_append kV_X6_append ml_L_46 (by exact h.gs.at0) rfl (by decide) rfl rfl rfl (by first | exact Nat.le_of_ble_eq_true rfl | (simp [Value.category, isR_cat kv_isR, isR_cat aref_isR]; done)) (Nat.le_refl _) (Nat.le_refl _) ?_
              refine gx_pop hC dL_texts_123 (by first | rfl | exact isR_cat kv_isR | exact isR_cat aref_isR) ?_
              refine gx_aload_n (i := 0) hC dL_texts_124 rfl rfl (by first | exact Or.inr ⟨_, rfl⟩ | exact Or.inl rfl) ?_
              refine gx_bipush (v := nI 116) hC dL_texts_125 bp_116n ?_
              refine gx_callV1 hC dL_texts_127 (km) kY_X6_append kV_X6_append ml_L_46 (by exact h.gs.at0) rfl (by decide) rfl rfl rfl (by first | exact Nat.le_of_ble_eq_true rfl | (simp [Value.category, isR_cat kv_isR, isR_cat aref_isR]; done)) (Nat.le_refl _) (Nat.le_refl _) ?_
              refine gx_pop hC dL_texts_130 (by first | rfl | exact isR_cat kv_isR | exact isR_cat aref_isR) ?_
              refine gx_aload_n (i := 0) hC dL_texts_131 rfl rfl (by first | exact Or.inr ⟨_, rfl⟩ | exact Or.inl rfl) ?_
              refine gx_iload hC dL_texts_132 rfl ?_
              refine gx_callS0 hC dL_texts_134 (kn) kY_L_number kS_L_number ml_L_49 (by decide) rfl rfl rfl (by first | exact Nat.le_of_ble_eq_true rfl | (simp [Value.category, isR_cat kv_isR, isR_cat aref_isR]; done)) (Nat.le_refl _) (Nat.le_refl _) ?_
              refine gx_aload_n (i := 0) hC dL_texts_137 rfl rfl (by first | exact Or.inr ⟨_, rfl⟩ | exact Or.inl rfl) ?_
              refine gx_bipush (v := nI 59) hC dL_texts_138 bp_59n ?_
              refine gx_callV1 hC dL_texts_140 (ko) kY_X6_append kV_X6_append ml_L_46 (by exact h.gs.at0) rfl (by decide) rfl rfl rfl (by first | exact Nat.le_of_ble_eq_true rfl | (simp [Value.category, isR_cat kv_isR, isR_cat aref_isR]; done)) (Nat.le_refl _) (Nat.le_refl _) ?_
              refine gx_pop hC dL_texts_143 (by first | rfl | exact isR_cat kv_isR | exact isR_cat aref_isR) ?_
              refine gx_iload hC dL_texts_144 rfl ?_
              refine gx_if_eq (tgt := 175) hC dL_texts_146 (by decide) (fun c_146 => ?_) (fun c_146 => ?_)
              · first | exact absurd (by decide) c_146 | exact absurd c_146 (by decide)
              · refine gx_aload_n (i := 0) hC dL_texts_149 rfl rfl (by first | exact Or.inr ⟨_, rfl⟩ | exact Or.inl rfl) ?_
                refine gx_callV1 hC dL_texts_150 (kp) kY_X6_faultPosition kV_X6_faultPosition ml_L_59 (by exact h.gs.at0) rfl (by decide) rfl rfl rfl (by first | exact Nat.le_of_ble_eq_true rfl | (simp [Value.category, isR_cat kv_isR, isR_cat aref_isR]; done)) (Nat.le_refl _) (Nat.le_refl _) ?_
                refine gx_bipush (v := -6) hC dL_texts_153 bp_m6 ?_
                refine gx_icmp_ne (tgt := 175) hC dL_texts_155 (by decide) (fun c_155 => ?_) (fun c_155 => ?_)
                · first | exact absurd (by rfl) c_155 | exact absurd c_155 (by rfl)
                · refine gx_aload_n (i := 0) hC dL_texts_158 rfl rfl (by first | exact Or.inr ⟨_, rfl⟩ | exact Or.inl rfl) ?_
                  refine gx_iconst (v := nI 1) hC dL_texts_159 ic_1n ?_
                  refine gx_callV1 hC dL_texts_160 (kq) kY_X6_keep kV_X6_keep ml_L_37 (by exact h.gs.at0) rfl (by decide) rfl rfl rfl (by first | exact Nat.le_of_ble_eq_true rfl | (simp [Value.category, isR_cat kv_isR, isR_cat aref_isR]; done)) (Nat.le_refl _) (Nat.le_refl _) ?_
                  refine gx_aload_n (i := 0) hC dL_texts_163 rfl rfl (by first | exact Or.inr ⟨_, rfl⟩ | exact Or.inl rfl) ?_
                  refine gx_iconst (v := nI 0) hC dL_texts_164 ic_0n ?_
                  refine gx_callV1 hC dL_texts_165 (tt0 hq1) kY_X6_tell kV_X6_tell ml_L_9 (by exact h.gs.at0) rfl (by decide) rfl rfl rfl (by first | exact Nat.le_of_ble_eq_true rfl | (simp [Value.category, isR_cat kv_isR, isR_cat aref_isR]; done)) (Nat.le_refl _) (Nat.le_refl _) ?_
                  refine gx_icmp_ne (tgt := 175) hC dL_texts_168 (by decide) (fun c_168 => ?_) (fun c_168 => ?_)
                  · first | exact absurd (by rfl) c_168 | exact absurd c_168 (by rfl)
                  · refine gx_iconst (v := nI 1) hC dL_texts_171 ic_1n ?_
                    refine gx_goto (tgt := 176) hC dL_texts_172 (by decide) ?_
                    refine gx_istore (i := 5) (L' := [_, _, _, _, _, _, _, _, _, _, _, _, _, _]) hC dL_texts_176 (Nat.le_of_ble_eq_true rfl) rfl (fun u h9 => by first | exact Or.inl rfl | (cases h9; done) | (right; cases h9; first | rfl | exact isR_cat aref_isR | exact isR_cat kv_isR)) ?_
                    refine gx_aload_n (i := 0) hC dL_texts_178 rfl rfl (by first | exact Or.inr ⟨_, rfl⟩ | exact Or.inl rfl) ?_
                    refine gx_iconst (v := nI 0) hC dL_texts_179 ic_0n ?_
                    refine gx_callV1 hC dL_texts_180 (tt0 hq1) kY_X6_tell kV_X6_tell ml_L_9 (by exact h.gs.at0) rfl (by decide) rfl rfl rfl (by first | exact Nat.le_of_ble_eq_true rfl | (simp [Value.category, isR_cat kv_isR, isR_cat aref_isR]; done)) (Nat.le_refl _) (Nat.le_refl _) ?_
                    refine gx_istore (i := 7) (L' := [_, _, _, _, _, _, _, _, _, _, _, _, _, _]) hC dL_texts_183 (Nat.le_of_ble_eq_true rfl) rfl (fun u h9 => by first | exact Or.inl rfl | (cases h9; done) | (right; cases h9; first | rfl | exact isR_cat aref_isR | exact isR_cat kv_isR)) ?_
                    refine gx_aload_n (i := 0) hC dL_texts_185 rfl rfl (by first | exact Or.inr ⟨_, rfl⟩ | exact Or.inl rfl) ?_
                    refine gx_iconst (v := nI 3) hC dL_texts_186 ic_3n ?_
                    refine gx_callV1 hC dL_texts_187 (tt3 hq1) kY_X6_tell kV_X6_tell ml_L_9 (by exact h.gs.at0) rfl (by decide) rfl rfl rfl (by first | exact Nat.le_of_ble_eq_true rfl | (simp [Value.category, isR_cat kv_isR, isR_cat aref_isR]; done)) (Nat.le_refl _) (Nat.le_refl _) ?_
                    refine gx_istore (i := 8) (L' := [_, _, _, _, _, _, _, _, _, _, _, _, _, _]) hC dL_texts_190 (Nat.le_of_ble_eq_true rfl) rfl (fun u h9 => by first | exact Or.inl rfl | (cases h9; done) | (right; cases h9; first | rfl | exact isR_cat aref_isR | exact isR_cat kv_isR)) ?_
                    refine gx_aload_n (i := 0) hC dL_texts_192 rfl rfl (by first | exact Or.inr ⟨_, rfl⟩ | exact Or.inl rfl) ?_
                    refine gx_callV1 hC dL_texts_193 (kr) kY_X6_run kV_X6_run ml_L_66 (by exact h.gs.at0) rfl (by decide) rfl rfl rfl (by first | exact Nat.le_of_ble_eq_true rfl | (simp [Value.category, isR_cat kv_isR, isR_cat aref_isR]; done)) (Nat.le_refl _) (Nat.le_refl _) ?_
                    refine gx_istore (i := 9) (L' := [_, _, _, _, _, _, _, _, _, _, _, _, _, _]) hC dL_texts_196 (Nat.le_of_ble_eq_true rfl) rfl (fun u h9 => by first | exact Or.inl rfl | (cases h9; done) | (right; cases h9; first | rfl | exact isR_cat aref_isR | exact isR_cat kv_isR)) ?_
                    refine gx_aload_n (i := 0) hC dL_texts_198 rfl rfl (by first | exact Or.inr ⟨_, rfl⟩ | exact Or.inl rfl) ?_
                    refine gx_bipush (v := nI 16) hC dL_texts_199 bp_16n ?_
                    refine gx_callV1 hC dL_texts_201 (tt16 hr) kY_X6_tell kV_X6_tell ml_L_9 (by exact h.gs.at0) rfl (by decide) rfl rfl rfl (by first | exact Nat.le_of_ble_eq_true rfl | (simp [Value.category, isR_cat kv_isR, isR_cat aref_isR]; done)) (Nat.le_refl _) (Nat.le_refl _) ?_
                    refine gx_istore (i := 10) (L' := [_, _, _, _, _, _, _, _, _, _, _, _, _, _]) hC dL_texts_204 (Nat.le_of_ble_eq_true rfl) rfl (fun u h9 => by first | exact Or.inl rfl | (cases h9; done) | (right; cases h9; first | rfl | exact isR_cat aref_isR | exact isR_cat kv_isR)) ?_
                    refine gx_aload_n (i := 0) hC dL_texts_206 rfl rfl (by first | exact Or.inr ⟨_, rfl⟩ | exact Or.inl rfl) ?_
                    refine gx_bipush (v := nI 13) hC dL_texts_207 bp_13n ?_
                    refine gx_callV1 hC dL_texts_209 (tt13 hr) kY_X6_tell kV_X6_tell ml_L_9 (by exact h.gs.at0) rfl (by decide) rfl rfl rfl (by first | exact Nat.le_of_ble_eq_true rfl | (simp [Value.category, isR_cat kv_isR, isR_cat aref_isR]; done)) (Nat.le_refl _) (Nat.le_refl _) ?_
                    refine gx_istore (i := 11) (L' := [_, _, _, _, _, _, _, _, _, _, _, _, _, _]) hC dL_texts_212 (Nat.le_of_ble_eq_true rfl) rfl (fun u h9 => by first | exact Or.inl rfl | (cases h9; done) | (right; cases h9; first | rfl | exact isR_cat aref_isR | exact isR_cat kv_isR)) ?_
                    refine gx_aload_n (i := 0) hC dL_texts_214 rfl rfl (by first | exact Or.inr ⟨_, rfl⟩ | exact Or.inl rfl) ?_
                    refine gx_bipush (v := nI 7) hC dL_texts_215 bp_7n ?_
                    refine gx_callV1 hC dL_texts_217 (tt7 hr) kY_X6_tell kV_X6_tell ml_L_9 (by exact h.gs.at0) rfl (by decide) rfl rfl rfl (by first | exact Nat.le_of_ble_eq_true rfl | (simp [Value.category, isR_cat kv_isR, isR_cat aref_isR]; done)) (Nat.le_refl _) (Nat.le_refl _) ?_
                    refine gx_istore (i := 12) (L' := [_, _, _, _, _, _, _, _, _, _, _, _, _, _]) hC dL_texts_220 (Nat.le_of_ble_eq_true rfl) rfl (fun u h9 => by first | exact Or.inl rfl | (cases h9; done) | (right; cases h9; first | rfl | exact isR_cat aref_isR | exact isR_cat kv_isR)) ?_
                    refine gx_iload hC dL_texts_222 rfl ?_
                    refine gx_if_eq (tgt := 312) hC dL_texts_224 (by decide) (fun c_224 => ?_) (fun c_224 => ?_)
                    · first | exact absurd (by decide) c_224 | exact absurd c_224 (by decide)
                    · refine gx_iload hC dL_texts_227 rfl ?_
                      refine gx_iconst (v := nI 2) hC dL_texts_229 ic_2n ?_
                      refine gx_icmp_ne (tgt := 266) hC dL_texts_230 (by decide) (fun c_230 => ?_) (fun c_230 => ?_)
                      · first | exact absurd (by rfl) c_230 | exact absurd c_230 (by rfl)
                      · refine gx_aload_n (i := 0) hC dL_texts_233 rfl rfl (by first | exact Or.inr ⟨_, rfl⟩ | exact Or.inl rfl) ?_
                        refine gx_iconst (v := nI 0) hC dL_texts_234 ic_0n ?_
                        refine gx_callV1 hC dL_texts_235 (tt0 hr) kY_X6_tell kV_X6_tell ml_L_9 (by exact h.gs.at0) rfl (by decide) rfl rfl rfl (by first | exact Nat.le_of_ble_eq_true rfl | (simp [Value.category, isR_cat kv_isR, isR_cat aref_isR]; done)) (Nat.le_refl _) (Nat.le_refl _) ?_
                        refine gx_iload hC dL_texts_238 rfl ?_
                        refine gx_iload hC dL_texts_240 rfl ?_
                        refine gx_iadd hC dL_texts_242 ?_
                        refine gx_icmp_ne (tgt := 312) hC dL_texts_243 (by decide) (fun c_243 => ?_) (fun c_243 => ?_)
                        · first | exact absurd (by rw [mGo_0, mEn_lo (by decide) (by decide)]) c_243 | exact absurd c_243 (by rw [mGo_0, mEn_lo (by decide) (by decide)])
                        · refine gx_aload_n (i := 0) hC dL_texts_246 rfl rfl (by first | exact Or.inr ⟨_, rfl⟩ | exact Or.inl rfl) ?_
                          refine gx_iconst (v := nI 3) hC dL_texts_247 ic_3n ?_
                          refine gx_callV1 hC dL_texts_248 (tt3 hr) kY_X6_tell kV_X6_tell ml_L_9 (by exact h.gs.at0) rfl (by decide) rfl rfl rfl (by first | exact Nat.le_of_ble_eq_true rfl | (simp [Value.category, isR_cat kv_isR, isR_cat aref_isR]; done)) (Nat.le_refl _) (Nat.le_refl _) ?_
                          refine gx_iload hC dL_texts_251 rfl ?_
                          refine gx_iconst (v := nI 1) hC dL_texts_253 ic_1n ?_
                          refine gx_iadd hC dL_texts_254 ?_
                          rw [nI_add]
                          refine gx_icmp_ne (tgt := 312) hC dL_texts_255 (by decide) (fun c_255 => ?_) (fun c_255 => ?_)
                          · first | exact absurd (by rfl) c_255 | exact absurd c_255 (by rfl)
                          · refine gx_iload hC dL_texts_258 rfl ?_
                            refine gx_if_ne (tgt := 312) hC dL_texts_260 (by decide) (fun c_260 => ?_) (fun c_260 => ?_)
                            · first | exact absurd (by rw [mGo_13]; exact mEn_13) c_260 | exact absurd c_260 (by rw [mGo_13]; exact mEn_13)
                            · refine gx_goto (tgt := 291) hC dL_texts_263 (by decide) ?_
                              refine gx_aload_n (i := 0) hC dL_texts_291 rfl rfl (by first | exact Or.inr ⟨_, rfl⟩ | exact Or.inl rfl) ?_
                              refine gx_callV1 hC dL_texts_292 (ks) kY_X6_undo kV_X6_undo ml_L_69 (by exact h.gs.at0) rfl (by decide) rfl rfl rfl (by first | exact Nat.le_of_ble_eq_true rfl | (simp [Value.category, isR_cat kv_isR, isR_cat aref_isR]; done)) (Nat.le_refl _) (Nat.le_refl _) ?_
                              refine gx_if_lt (tgt := 312) hC dL_texts_295 (by decide) (fun c_295 => ?_) (fun c_295 => ?_)
                              · first | exact absurd (by exact nI_pos (by omega)) c_295 | exact absurd c_295 (by exact nI_pos (by omega))
                              · refine gx_aload_n (i := 0) hC dL_texts_298 rfl rfl (by first | exact Or.inr ⟨_, rfl⟩ | exact Or.inl rfl) ?_
                                refine gx_iconst (v := nI 0) hC dL_texts_299 ic_0n ?_
                                refine gx_callV1 hC dL_texts_300 (tt0 hs1) kY_X6_tell kV_X6_tell ml_L_9 (by exact h.gs.at0) rfl (by decide) rfl rfl rfl (by first | exact Nat.le_of_ble_eq_true rfl | (simp [Value.category, isR_cat kv_isR, isR_cat aref_isR]; done)) (Nat.le_refl _) (Nat.le_refl _) ?_
                                refine gx_iload hC dL_texts_303 rfl ?_
                                refine gx_icmp_ne (tgt := 312) hC dL_texts_305 (by decide) (fun c_305 => ?_) (fun c_305 => ?_)
                                · first | exact absurd (by rfl) c_305 | exact absurd c_305 (by rfl)
                                · refine gx_iconst (v := nI 1) hC dL_texts_308 ic_1n ?_
                                  refine gx_goto (tgt := 313) hC dL_texts_309 (by decide) ?_
                                  refine gx_istore (i := 5) (L' := [_, _, _, _, _, _, _, _, _, _, _, _, _, _]) hC dL_texts_313 (Nat.le_of_ble_eq_true rfl) rfl (fun u h9 => by first | exact Or.inl rfl | (cases h9; done) | (right; cases h9; first | rfl | exact isR_cat aref_isR | exact isR_cat kv_isR)) ?_
                                  refine gx_aload_n (i := 0) hC dL_texts_315 rfl rfl (by first | exact Or.inr ⟨_, rfl⟩ | exact Or.inl rfl) ?_
                                  refine gx_iload_n (i := 1) hC dL_texts_316 rfl rfl ?_
                                  refine gx_iload_n (i := 2) hC dL_texts_317 rfl rfl ?_
                                  refine gx_iload_n (i := 3) hC dL_texts_318 rfl rfl ?_
                                  refine gx_callV1 hC dL_texts_319 (kt) kY_X6_enter kV_X6_enter ml_L_72 (by exact h.gs.at0) rfl (by decide) rfl rfl rfl (by first | exact Nat.le_of_ble_eq_true rfl | (simp [Value.category, isR_cat kv_isR, isR_cat aref_isR]; done)) (Nat.le_refl _) (Nat.le_refl _) ?_
                                  refine gx_istore (i := 13) (L' := [_, _, _, _, _, _, _, _, _, _, _, _, _, _]) hC dL_texts_322 (Nat.le_of_ble_eq_true rfl) rfl (fun u h9 => by first | exact Or.inl rfl | (cases h9; done) | (right; cases h9; first | rfl | exact isR_cat aref_isR | exact isR_cat kv_isR)) ?_
                                  refine gx_iload hC dL_texts_324 rfl ?_
                                  refine gx_if_eq (tgt := 403) hC dL_texts_326 (by decide) (fun c_326 => ?_) (fun c_326 => ?_)
                                  · first | exact absurd (by decide) c_326 | exact absurd c_326 (by decide)
                                  · refine gx_iload hC dL_texts_329 rfl ?_
                                    refine gx_iconst (v := nI 2) hC dL_texts_331 ic_2n ?_
                                    refine gx_icmp_ne (tgt := 376) hC dL_texts_332 (by decide) (fun c_332 => ?_) (fun c_332 => ?_)
                                    · first | exact absurd (by rfl) c_332 | exact absurd c_332 (by rfl)
                                    · refine gx_iload hC dL_texts_335 rfl ?_
                                      refine gx_iload hC dL_texts_337 rfl ?_
                                      refine gx_icmp_ne (tgt := 403) hC dL_texts_339 (by decide) (fun c_339 => ?_) (fun c_339 => ?_)
                                      · first | exact absurd (by rfl) c_339 | exact absurd c_339 (by rfl)
                                      · refine gx_aload_n (i := 0) hC dL_texts_342 rfl rfl (by first | exact Or.inr ⟨_, rfl⟩ | exact Or.inl rfl) ?_
                                        refine gx_iload hC dL_texts_343 rfl ?_
                                        refine gx_callV1 hC dL_texts_345 (ku) kY_X6_pass kV_X6_pass ml_L_40 (by exact h.gs.at0) rfl (by decide) rfl rfl rfl (by first | exact Nat.le_of_ble_eq_true rfl | (simp [Value.category, isR_cat kv_isR, isR_cat aref_isR]; done)) (Nat.le_refl _) (Nat.le_refl _) ?_
                                        refine gx_if_lt (tgt := 403) hC dL_texts_348 (by decide) (fun c_348 => ?_) (fun c_348 => ?_)
                                        · first | exact absurd (by rw [egk]; exact nI_pos (by omega)) c_348 | exact absurd c_348 (by rw [egk]; exact nI_pos (by omega))
                                        · refine gx_aload_n (i := 0) hC dL_texts_351 rfl rfl (by first | exact Or.inr ⟨_, rfl⟩ | exact Or.inl rfl) ?_
                                          refine gx_bipush (v := nI 13) hC dL_texts_352 bp_13n ?_
                                          refine gx_callV1 hC dL_texts_354 (tt13 hu1) kY_X6_tell kV_X6_tell ml_L_9 (by exact h.gs.at0) rfl (by decide) rfl rfl rfl (by first | exact Nat.le_of_ble_eq_true rfl | (simp [Value.category, isR_cat kv_isR, isR_cat aref_isR]; done)) (Nat.le_refl _) (Nat.le_refl _) ?_
                                          refine gx_iload hC dL_texts_357 rfl ?_
                                          refine gx_icmp_ne (tgt := 403) hC dL_texts_359 (by decide) (fun c_359 => ?_) (fun c_359 => ?_)
                                          · first | exact absurd (by rfl) c_359 | exact absurd c_359 (by rfl)
                                          · refine gx_aload_n (i := 0) hC dL_texts_362 rfl rfl (by first | exact Or.inr ⟨_, rfl⟩ | exact Or.inl rfl) ?_
                                            refine gx_bipush (v := nI 7) hC dL_texts_363 bp_7n ?_
                                            refine gx_callV1 hC dL_texts_365 (tt7 hu1) kY_X6_tell kV_X6_tell ml_L_9 (by exact h.gs.at0) rfl (by decide) rfl rfl rfl (by first | exact Nat.le_of_ble_eq_true rfl | (simp [Value.category, isR_cat kv_isR, isR_cat aref_isR]; done)) (Nat.le_refl _) (Nat.le_refl _) ?_
                                            refine gx_iload hC dL_texts_368 rfl ?_
                                            refine gx_icmp_ne (tgt := 403) hC dL_texts_370 (by decide) (fun c_370 => ?_) (fun c_370 => ?_)
                                            · first | exact absurd (by rfl) c_370 | exact absurd c_370 (by rfl)
                                            · refine gx_goto (tgt := 399) hC dL_texts_373 (by decide) ?_
                                              refine gx_iconst (v := nI 1) hC dL_texts_399 ic_1n ?_
                                              refine gx_goto (tgt := 404) hC dL_texts_400 (by decide) ?_
                                              exact gx_zret hC hQ dL_texts_404 (by first | exact Or.inl rfl | exact Or.inr rfl | exact b2_bit _ | assumption) (rfl) (rfl) rfl
theorem u_texts (l : Launch) (z : hZt) {M : hMem} {R : hRef} {v : gRow} {lv c q T k fu le m : Nat} {H : Nat → gRow} {K : Nat → Option gRow} (h : PI M R v lv c q H K) (hq : QQ v c T) (hk : k < 3) (h1 : 1 ≤ fu) (hfu : fu ≤ 900) (hle : le < lv) (hm1 : 1 ≤ m) (hm : m ≤ 40) : ∃ M9 R9 w9 c9 q9 H9, hCt l z m_L_texts [.ref (z.1 + 0), .int (nI k), .int (nI fu), .int (nI le), .int (nI m)] 215 M R 215 (some (.int 1)) M9 R9 ∧ PI M9 R9 w9 lv c9 q9 H9 (fun x => if x = 1 then some v else K x) ∧ QQ w9 c9 (T + m) ∧ c ≤ c9 := by
  have c20 := h.sw.c20
  by_cases hF : c = 20
  · exact u_textsF l z h hq hk h1 hfu hle hm1 hm hF
  · by_cases hR : 0 < mRf v c (nI k) (nI fu) (nI le)
    · exact u_textsR l z h hq hk h1 hfu hle hm1 hm (by omega) hR
    · refine u_textsA l z h hq hk h1 hfu hle hm1 hm (by omega) ?_
      have e := h.rl.ew (x := nI k) (fu := nI fu) (y := nI le)
      have ew := mEw_f h (hk_n hk) h1 (show fu ≤ 9999 by omega) hle
      rw [if_neg hF] at ew
      exact ((e.2 (by rw [ew]; decide)).2 hR).2
