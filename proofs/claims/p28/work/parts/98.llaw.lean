/-! the law itself -/
section LC
variable {z : hZt} {n0 n nm nL d pc idx np : Nat} {X : hXt} {cc : ByteArray} {own : String} {M : hMem} {R : hRef} {L : List (Option Value)} {st st' : List Value} {w : Value} {b Ls : Nat} {xs : Nat → Int32}
theorem gx_callSs1 (hC : hOk z n0 X cc own nL d nm) (hX : va_X b Ls xs X.1.2.2.2.2.1 X.1.2.2.2.2.1.heap) (hbl : b < X.1.2.2.2.2.1.heap.size) (hbz : b < z.1) {yd : hYd} {As : List Value} (hd : decode cc pc = .ok (.invokestatic idx, 3)) (hct : hCs X.1.2.1 z yd As n M R (some w) b Ls xs) (hY : hYk yd np) (hV : Cond.static yd.1 ∈ hgd) (hl : Cond.methodLink own idx yd.1 ∈ hgd)
    (hdp : yd.2.2.2.2 + 1 ≤ d) (hnp : As.length = np) (hL : L.length = nL) (hst : st' = As.reverse ++ st) (hcat : (st.map fun v => v.category).sum ≤ 8) (hnm : n ≤ nm)
    (kk : hG z n0 X n M R (pc + 3) L (w :: st)) : hG z n0 X n M R pc L st' := gx_callSs hC hX hbl hbz hd hct hY hV hl hdp hnp hL hst hcat hnm kk
end LC
theorem nI_nm {p : Nat} (h : p < 2 ^ 31) {x : Int32} (hx : x < 0) : ¬ nI p = x := fun e => by
  rw [← e] at hx
  exact nI_pos h hx
set_option maxHeartbeats 4000000 in
set_option maxRecDepth 20000 in
theorem law_end {z : hZt} {b Ls lv : Nat} {X : hXt} {xs : Nat → Int32} {y : Int32} (hC : hOk z 0 X cL_law RL 13 11 215) (hX : va_X b Ls xs X.1.2.2.2.2.1 X.1.2.2.2.2.1.heap) (hbl : b < X.1.2.2.2.2.1.heap.size) (hbz : b < z.1) (hLs : Ls ≤ 260)
    (hend : ∀ M R Lc, hG z 0 X 215 M R 694 Lc [.int (nI 1)]) {M : hMem} {R : hRef} {v : gRow} {c q T : Nat} {H : Nat → gRow} {K : Nat → Option gRow} (h : PI M R v lv c q H K) (hq : QQ v c T) (hT : T < 2 ^ 30) {x5 : Int32} {w6 w7 w8 w9 w10 w11 w12 : Option Value} : hG z 0 X 215 M R 516 [some (.ref b), some (.ref (z.1 + 0)), some (.int y), some (.int (nI lv)), some (.int (nI 1)), some (.int x5), w6, w7, w8, w9, w10, w11, w12] [] := by
  have c20 := h.sw.c20
  have l16 := h.sw.l16
  have hq5 := h.q5
  obtain ⟨M1, k1, h1⟩ := u_refuses X.1.2.1 z h
  obtain ⟨M2, k2, h2⟩ := t_keep (l := X.1.2.1) (z := z) h1 (i := 0) (by decide)
  obtain ⟨M3, R3, k3, h3⟩ := t_pass (l := X.1.2.1) (z := z) h2 (i := 7) (by decide) (by decide)
  obtain ⟨M4, R4, k4, h4⟩ := t_begin (l := X.1.2.1) (z := z) h3 (i := 5) (by decide) (by decide)
  obtain ⟨M5, k5, h5⟩ := t_undo (l := X.1.2.1) (z := z) h4 (Nat.succ_pos _) (w := mGo v lv c 7) (by rw [Nat.add_sub_cancel]; exact hPu_top (by omega)) h3.rl.wv.mw.lv h3.rl.wv.mw.ct l16 c20
  rw [Nat.add_sub_cancel] at k5 h5
  obtain ⟨M6, k6, h6⟩ := t_undo (l := X.1.2.1) (z := z) h5 (by omega) (w := v) (hPu_low hq5) h.rl.wv.mw.lv h.rl.wv.mw.ct l16 c20
  obtain ⟨M7, R7, k7, h7⟩ := t_rest (l := X.1.2.1) (z := z) h6 (i := 0) (by decide) (w := v) (if_pos rfl) h.rl.wv.mw.lv h.rl.wv.mw.ct l16 c20
  obtain ⟨gk, hgk, eg⟩ := mGc_n (v := v) (lv := lv) (c := c) 7
  refine gx_iload hC dL_law_516 rfl ?_
  refine gx_if_eq (tgt := 545) hC dL_law_518 (by decide) (fun c_518 => ?_) (fun c_518 => ?_)
  · first | exact absurd (by decide) c_518 | exact absurd c_518 (by decide)
  · refine gx_aload_n (i := 1) hC dL_law_521 rfl rfl (by first | exact Or.inr ⟨_, rfl⟩ | exact Or.inl rfl) ?_
    refine gx_callS1 hC dL_law_522 (k1) kY_L_refuses kS_L_refuses ml_L_120 (by decide) rfl rfl rfl (by first | exact Nat.le_of_ble_eq_true rfl | (simp [Value.category, isR_cat kv_isR, isR_cat aref_isR]; done)) (Nat.le_refl _) (Nat.le_refl _) ?_
    refine gx_if_eq (tgt := 545) hC dL_law_525 (by decide) (fun c_525 => ?_) (fun c_525 => ?_)
    · first | exact absurd (by decide) c_525 | exact absurd c_525 (by decide)
    · refine gx_aload_n (i := 1) hC dL_law_528 rfl rfl (by first | exact Or.inr ⟨_, rfl⟩ | exact Or.inl rfl) ?_
      refine gx_iconst (v := nI 0) hC dL_law_529 ic_0n ?_
      refine gx_callV1 hC dL_law_530 (k2) kY_X6_keep kV_X6_keep ml_L_37 (by exact h.gs.at0) rfl (by decide) rfl rfl rfl (by first | exact Nat.le_of_ble_eq_true rfl | (simp [Value.category, isR_cat kv_isR, isR_cat aref_isR]; done)) (Nat.le_refl _) (Nat.le_refl _) ?_
      refine gx_aload_n (i := 1) hC dL_law_533 rfl rfl (by first | exact Or.inr ⟨_, rfl⟩ | exact Or.inl rfl) ?_
      refine gx_iconst (v := nI 0) hC dL_law_534 ic_0n ?_
      refine gx_callV1 hC dL_law_535 (tt0 h2) kY_X6_tell kV_X6_tell ml_L_9 (by exact h.gs.at0) rfl (by decide) rfl rfl rfl (by first | exact Nat.le_of_ble_eq_true rfl | (simp [Value.category, isR_cat kv_isR, isR_cat aref_isR]; done)) (Nat.le_refl _) (Nat.le_refl _) ?_
      refine gx_icmp_ne (tgt := 545) hC dL_law_538 (by decide) (fun c_538 => ?_) (fun c_538 => ?_)
      · first | exact absurd (by rfl) c_538 | exact absurd c_538 (by rfl)
      · refine gx_iconst (v := nI 1) hC dL_law_541 ic_1n ?_
        refine gx_goto (tgt := 546) hC dL_law_542 (by decide) ?_
        refine gx_istore (i := 4) (L' := [_, _, _, _, _, _, _, _, _, _, _, _, _]) hC dL_law_546 (Nat.le_of_ble_eq_true rfl) rfl (fun u h9 => by first | exact Or.inl rfl | (cases h9; done) | (right; cases h9; first | rfl | exact isR_cat aref_isR | exact isR_cat kv_isR)) ?_
        refine gx_aload_n (i := 1) hC dL_law_548 rfl rfl (by first | exact Or.inr ⟨_, rfl⟩ | exact Or.inl rfl) ?_
        refine gx_iconst (v := nI 0) hC dL_law_549 ic_0n ?_
        refine gx_callV1 hC dL_law_550 (tt0 h2) kY_X6_tell kV_X6_tell ml_L_9 (by exact h.gs.at0) rfl (by decide) rfl rfl rfl (by first | exact Nat.le_of_ble_eq_true rfl | (simp [Value.category, isR_cat kv_isR, isR_cat aref_isR]; done)) (Nat.le_refl _) (Nat.le_refl _) ?_
        refine gx_istore (i := 5) (L' := [_, _, _, _, _, _, _, _, _, _, _, _, _]) hC dL_law_553 (Nat.le_of_ble_eq_true rfl) rfl (fun u h9 => by first | exact Or.inl rfl | (cases h9; done) | (right; cases h9; first | rfl | exact isR_cat aref_isR | exact isR_cat kv_isR)) ?_
        refine gx_aload_n (i := 1) hC dL_law_555 rfl rfl (by first | exact Or.inr ⟨_, rfl⟩ | exact Or.inl rfl) ?_
        refine gx_bipush (v := nI 13) hC dL_law_556 bp_13n ?_
        refine gx_callV1 hC dL_law_558 (tt13 h2) kY_X6_tell kV_X6_tell ml_L_9 (by exact h.gs.at0) rfl (by decide) rfl rfl rfl (by first | exact Nat.le_of_ble_eq_true rfl | (simp [Value.category, isR_cat kv_isR, isR_cat aref_isR]; done)) (Nat.le_refl _) (Nat.le_refl _) ?_
        refine gx_istore (i := 6) (L' := [_, _, _, _, _, _, _, _, _, _, _, _, _]) hC dL_law_561 (Nat.le_of_ble_eq_true rfl) rfl (fun u h9 => by first | exact Or.inl rfl | (cases h9; done) | (right; cases h9; first | rfl | exact isR_cat aref_isR | exact isR_cat kv_isR)) ?_
        refine gx_iload hC dL_law_563 rfl ?_
        refine gx_if_eq (tgt := 636) hC dL_law_565 (by decide) (fun c_565 => ?_) (fun c_565 => ?_)
        · first | exact absurd (by decide) c_565 | exact absurd c_565 (by decide)
        · refine gx_aload_n (i := 1) hC dL_law_568 rfl rfl (by first | exact Or.inr ⟨_, rfl⟩ | exact Or.inl rfl) ?_
          refine gx_bipush (v := nI 7) hC dL_law_569 bp_7n ?_
          refine gx_callV1 hC dL_law_571 (k3) kY_X6_pass kV_X6_pass ml_L_40 (by exact h.gs.at0) rfl (by decide) rfl rfl rfl (by first | exact Nat.le_of_ble_eq_true rfl | (simp [Value.category, isR_cat kv_isR, isR_cat aref_isR]; done)) (Nat.le_refl _) (Nat.le_refl _) ?_
          refine gx_if_lt (tgt := 636) hC dL_law_574 (by decide) (fun c_574 => ?_) (fun c_574 => ?_)
          · first | exact absurd (by rw [eg]; exact nI_pos (by omega)) c_574 | exact absurd c_574 (by rw [eg]; exact nI_pos (by omega))
          · refine gx_aload_n (i := 1) hC dL_law_577 rfl rfl (by first | exact Or.inr ⟨_, rfl⟩ | exact Or.inl rfl) ?_
            refine gx_iconst (v := nI 5) hC dL_law_578 ic_5n ?_
            refine gx_callV1 hC dL_law_579 (k4) kY_X6_begin kV_X6_begin ml_L_80 (by exact h.gs.at0) rfl (by decide) rfl rfl rfl (by first | exact Nat.le_of_ble_eq_true rfl | (simp [Value.category, isR_cat kv_isR, isR_cat aref_isR]; done)) (Nat.le_refl _) (Nat.le_refl _) ?_
            refine gx_iload_n (i := 3) hC dL_law_582 rfl rfl ?_
            refine gx_icmp_ne (tgt := 636) hC dL_law_583 (by decide) (fun c_583 => ?_) (fun c_583 => ?_)
            · first | exact absurd (by rfl) c_583 | exact absurd c_583 (by rfl)
            · refine gx_aload_n (i := 1) hC dL_law_586 rfl rfl (by first | exact Or.inr ⟨_, rfl⟩ | exact Or.inl rfl) ?_
              refine gx_iconst (v := nI 3) hC dL_law_587 ic_3n ?_
              refine gx_callV1 hC dL_law_588 (tt3 h4) kY_X6_tell kV_X6_tell ml_L_9 (by exact h.gs.at0) rfl (by decide) rfl rfl rfl (by first | exact Nat.le_of_ble_eq_true rfl | (simp [Value.category, isR_cat kv_isR, isR_cat aref_isR]; done)) (Nat.le_refl _) (Nat.le_refl _) ?_
              refine gx_if_ne (tgt := 636) hC dL_law_591 (by decide) (fun c_591 => ?_) (fun c_591 => ?_)
              · first | exact absurd (by rfl) c_591 | exact absurd c_591 (by rfl)
              · refine gx_aload_n (i := 1) hC dL_law_594 rfl rfl (by first | exact Or.inr ⟨_, rfl⟩ | exact Or.inl rfl) ?_
                refine gx_bipush (v := nI 12) hC dL_law_595 bp_12n ?_
                refine gx_callV1 hC dL_law_597 (tt12 h4) kY_X6_tell kV_X6_tell ml_L_9 (by exact h.gs.at0) rfl (by decide) rfl rfl rfl (by first | exact Nat.le_of_ble_eq_true rfl | (simp [Value.category, isR_cat kv_isR, isR_cat aref_isR]; done)) (Nat.le_refl _) (Nat.le_refl _) ?_
                refine gx_if_ne (tgt := 636) hC dL_law_600 (by decide) (fun c_600 => ?_) (fun c_600 => ?_)
                · first | exact absurd (by rfl) c_600 | exact absurd c_600 (by rfl)
                · refine gx_aload_n (i := 1) hC dL_law_603 rfl rfl (by first | exact Or.inr ⟨_, rfl⟩ | exact Or.inl rfl) ?_
                  refine gx_callV1 hC dL_law_604 (k5) kY_X6_undo kV_X6_undo ml_L_69 (by exact h.gs.at0) rfl (by decide) rfl rfl rfl (by first | exact Nat.le_of_ble_eq_true rfl | (simp [Value.category, isR_cat kv_isR, isR_cat aref_isR]; done)) (Nat.le_refl _) (Nat.le_refl _) ?_
                  refine gx_if_lt (tgt := 636) hC dL_law_607 (by decide) (fun c_607 => ?_) (fun c_607 => ?_)
                  · first | exact absurd (by exact nI_pos (by omega)) c_607 | exact absurd c_607 (by exact nI_pos (by omega))
                  · refine gx_aload_n (i := 1) hC dL_law_610 rfl rfl (by first | exact Or.inr ⟨_, rfl⟩ | exact Or.inl rfl) ?_
                    refine gx_iconst (v := nI 0) hC dL_law_611 ic_0n ?_
                    refine gx_callV1 hC dL_law_612 (tt0 h5) kY_X6_tell kV_X6_tell ml_L_9 (by exact h.gs.at0) rfl (by decide) rfl rfl rfl (by first | exact Nat.le_of_ble_eq_true rfl | (simp [Value.category, isR_cat kv_isR, isR_cat aref_isR]; done)) (Nat.le_refl _) (Nat.le_refl _) ?_
                    refine gx_iload hC dL_law_615 rfl ?_
                    refine gx_bipush (v := nI 7) hC dL_law_617 bp_7n ?_
                    refine gx_iadd hC dL_law_619 ?_
                    refine gx_icmp_ne (tgt := 636) hC dL_law_620 (by decide) (fun c_620 => ?_) (fun c_620 => ?_)
                    · first | exact absurd (by exact mGo_0) c_620 | exact absurd c_620 (by exact mGo_0)
                    · refine gx_aload_n (i := 1) hC dL_law_623 rfl rfl (by first | exact Or.inr ⟨_, rfl⟩ | exact Or.inl rfl) ?_
                      refine gx_iconst (v := nI 1) hC dL_law_624 ic_1n ?_
                      refine gx_callV1 hC dL_law_625 (tt1 h5) kY_X6_tell kV_X6_tell ml_L_9 (by exact h.gs.at0) rfl (by decide) rfl rfl rfl (by first | exact Nat.le_of_ble_eq_true rfl | (simp [Value.category, isR_cat kv_isR, isR_cat aref_isR]; done)) (Nat.le_refl _) (Nat.le_refl _) ?_
                      refine gx_iload_n (i := 3) hC dL_law_628 rfl rfl ?_
                      refine gx_icmp_ne (tgt := 636) hC dL_law_629 (by decide) (fun c_629 => ?_) (fun c_629 => ?_)
                      · first | exact absurd (by rfl) c_629 | exact absurd c_629 (by rfl)
                      · refine gx_iconst (v := nI 1) hC dL_law_632 ic_1n ?_
                        refine gx_goto (tgt := 637) hC dL_law_633 (by decide) ?_
                        refine gx_istore (i := 4) (L' := [_, _, _, _, _, _, _, _, _, _, _, _, _]) hC dL_law_637 (Nat.le_of_ble_eq_true rfl) rfl (fun u h9 => by first | exact Or.inl rfl | (cases h9; done) | (right; cases h9; first | rfl | exact isR_cat aref_isR | exact isR_cat kv_isR)) ?_
                        refine gx_iload hC dL_law_639 rfl ?_
                        refine gx_if_eq (tgt := 693) hC dL_law_641 (by decide) (fun c_641 => ?_) (fun c_641 => ?_)
                        · first | exact absurd (by decide) c_641 | exact absurd c_641 (by decide)
                        · refine gx_aload_n (i := 1) hC dL_law_644 rfl rfl (by first | exact Or.inr ⟨_, rfl⟩ | exact Or.inl rfl) ?_
                          refine gx_callV1 hC dL_law_645 (k6) kY_X6_undo kV_X6_undo ml_L_69 (by exact h.gs.at0) rfl (by decide) rfl rfl rfl (by first | exact Nat.le_of_ble_eq_true rfl | (simp [Value.category, isR_cat kv_isR, isR_cat aref_isR]; done)) (Nat.le_refl _) (Nat.le_refl _) ?_
                          refine gx_if_lt (tgt := 693) hC dL_law_648 (by decide) (fun c_648 => ?_) (fun c_648 => ?_)
                          · first | exact absurd (by exact nI_pos (by omega)) c_648 | exact absurd c_648 (by exact nI_pos (by omega))
                          · refine gx_aload_n (i := 1) hC dL_law_651 rfl rfl (by first | exact Or.inr ⟨_, rfl⟩ | exact Or.inl rfl) ?_
                            refine gx_iconst (v := nI 0) hC dL_law_652 ic_0n ?_
                            refine gx_callV1 hC dL_law_653 (tt0 h6) kY_X6_tell kV_X6_tell ml_L_9 (by exact h.gs.at0) rfl (by decide) rfl rfl rfl (by first | exact Nat.le_of_ble_eq_true rfl | (simp [Value.category, isR_cat kv_isR, isR_cat aref_isR]; done)) (Nat.le_refl _) (Nat.le_refl _) ?_
                            refine gx_iload hC dL_law_656 rfl ?_
                            refine gx_icmp_ne (tgt := 693) hC dL_law_658 (by decide) (fun c_658 => ?_) (fun c_658 => ?_)
                            · first | exact absurd (by rfl) c_658 | exact absurd c_658 (by rfl)
                            · refine gx_aload_n (i := 1) hC dL_law_661 rfl rfl (by first | exact Or.inr ⟨_, rfl⟩ | exact Or.inl rfl) ?_
                              refine gx_iconst (v := nI 0) hC dL_law_662 ic_0n ?_
                              refine gx_callV1 hC dL_law_663 (k7) kY_X6_restore kV_X6_restore ml_L_43 (by exact h.gs.at0) rfl (by decide) rfl rfl rfl (by first | exact Nat.le_of_ble_eq_true rfl | (simp [Value.category, isR_cat kv_isR, isR_cat aref_isR]; done)) (Nat.le_refl _) (Nat.le_refl _) ?_
                              refine gx_iload hC dL_law_666 rfl ?_
                              refine gx_icmp_ne (tgt := 693) hC dL_law_668 (by decide) (fun c_668 => ?_) (fun c_668 => ?_)
                              · first | exact absurd (by rfl) c_668 | exact absurd c_668 (by rfl)
                              · refine gx_aload_n (i := 1) hC dL_law_671 rfl rfl (by first | exact Or.inr ⟨_, rfl⟩ | exact Or.inl rfl) ?_
                                refine gx_bipush (v := nI 13) hC dL_law_672 bp_13n ?_
                                refine gx_callV1 hC dL_law_674 (tt13 h7) kY_X6_tell kV_X6_tell ml_L_9 (by exact h.gs.at0) rfl (by decide) rfl rfl rfl (by first | exact Nat.le_of_ble_eq_true rfl | (simp [Value.category, isR_cat kv_isR, isR_cat aref_isR]; done)) (Nat.le_refl _) (Nat.le_refl _) ?_
                                refine gx_iload hC dL_law_677 rfl ?_
                                refine gx_icmp_ne (tgt := 693) hC dL_law_679 (by decide) (fun c_679 => ?_) (fun c_679 => ?_)
                                · first | exact absurd (by rfl) c_679 | exact absurd c_679 (by rfl)
                                · refine gx_aload_n (i := 1) hC dL_law_682 rfl rfl (by first | exact Or.inr ⟨_, rfl⟩ | exact Or.inl rfl) ?_
                                  refine gx_callS1 hC dL_law_683 (u_sound _ _ h7 hq hT) kY_L_sound kS_L_sound ml_L_100 (by decide) rfl rfl rfl (by first | exact Nat.le_of_ble_eq_true rfl | (simp [Value.category, isR_cat kv_isR, isR_cat aref_isR]; done)) (Nat.le_refl _) (Nat.le_refl _) ?_
                                  refine gx_if_eq (tgt := 693) hC dL_law_686 (by decide) (fun c_686 => ?_) (fun c_686 => ?_)
                                  · first | exact absurd (by decide) c_686 | exact absurd c_686 (by decide)
                                  · refine gx_iconst (v := nI 1) hC dL_law_689 ic_1n ?_
                                    refine gx_goto (tgt := 694) hC dL_law_690 (by decide) ?_
                                    exact hend _ _ _
set_option maxHeartbeats 4000000 in
set_option maxRecDepth 20000 in
theorem law_loop {z : hZt} {b Ls lv : Nat} {X : hXt} {xs : Nat → Int32} {y : Int32} (hC : hOk z 0 X cL_law RL 13 11 215) (hX : va_X b Ls xs X.1.2.2.2.2.1 X.1.2.2.2.2.1.heap) (hbl : b < X.1.2.2.2.2.1.heap.size) (hbz : b < z.1) (hLs : Ls ≤ 260)
    (hend : ∀ M R Lc, hG z 0 X 215 M R 694 Lc [.int (nI 1)]) : ∀ (k i : Nat) {M : hMem} {R : hRef} {v : gRow} {c q T : Nat} {H : Nat → gRow} {K : Nat → Option gRow} (w6 w7 w8 w9 w10 w11 w12 : Option Value), 16 - i < k → i ≤ 16 → PI M R v lv c q H K → QQ v c T → T ≤ 100 * i → 1 ≤ c → (∀ u, w10 = some u → u.category = 1) → hG z 0 X 215 M R 125 [some (.ref b), some (.ref (z.1 + 0)), some (.int y), some (.int (nI lv)), some (.int (nI 1)), some (.int (nI i)), w6, w7, w8, w9, w10, w11, w12] [] := by
  intro k
  induction k with
  | zero => intro i; intros; omega
  | succ k ih =>
    intro i M R v c q T H K w6 w7 w8 w9 w10 w11 w12 hk1 hi1 h hq hT hc1 hw10
    have c20 := h.sw.c20
    have l16 := h.sw.l16
    have l4 := h.rl.wv.l4
    have j491 : ∀ {M2 : hMem} {R2 : hRef} {w : gRow} {c2 q2 T2 : Nat} {H2 : Nat → gRow} {K2 : Nat → Option gRow} (u6 u7 u8 u9 u10 u11 u12 : Option Value), PI M2 R2 w lv c2 q2 H2 K2 → QQ w c2 T2 → T2 ≤ 100 * i + 100 → 1 ≤ c2 → (∀ u, u10 = some u → u.category = 1) → i < 16 → hG z 0 X 215 M2 R2 491 [some (.ref b), some (.ref (z.1 + 0)), some (.int y), some (.int (nI lv)), some (.int (nI 1)), some (.int (nI i)), u6, u7, u8, u9, u10, u11, u12] [] := by
      intro M2 R2 w c2 q2 T2 H2 K2 u6 u7 u8 u9 u10 u11 u12 hE qE hTE hcE hw hi16
      refine gx_iload hC dL_law_491 rfl ?_
      refine gx_if_eq (tgt := 507) hC dL_law_493 (by decide) (fun c_493 => ?_) (fun c_493 => ?_)
      · first | exact absurd (by decide) c_493 | exact absurd c_493 (by decide)
      · refine gx_aload_n (i := 1) hC dL_law_496 rfl rfl (by first | exact Or.inr ⟨_, rfl⟩ | exact Or.inl rfl) ?_
        refine gx_callS1 hC dL_law_497 (u_sound _ _ hE qE (by omega)) kY_L_sound kS_L_sound ml_L_100 (by decide) rfl rfl rfl (by first | exact Nat.le_of_ble_eq_true rfl | (simp [Value.category, isR_cat kv_isR, isR_cat aref_isR]; done)) (Nat.le_refl _) (Nat.le_refl _) ?_
        refine gx_if_eq (tgt := 507) hC dL_law_500 (by decide) (fun c_500 => ?_) (fun c_500 => ?_)
        · first | exact absurd (by decide) c_500 | exact absurd c_500 (by decide)
        · refine gx_iconst (v := nI 1) hC dL_law_503 ic_1n ?_
          refine gx_goto (tgt := 508) hC dL_law_504 (by decide) ?_
          refine gx_istore (i := 4) (L' := [_, _, _, _, _, _, _, _, _, _, _, _, _]) hC dL_law_508 (Nat.le_of_ble_eq_true rfl) rfl (fun u h9 => by first | exact Or.inl rfl | (cases h9; done) | (right; cases h9; first | rfl | exact isR_cat aref_isR | exact isR_cat kv_isR) | (right; exact hw10 _ (Option.some.inj h9))) ?_
          refine gx_iinc (i := 5) (L' := [_, _, _, _, _, _, _, _, _, _, _, _, _]) hC dL_law_510 rfl (ii_1 _) (Nat.le_of_ble_eq_true rfl) rfl (fun u h9 => by first | exact Or.inl rfl | (cases h9; done) | (right; cases h9; first | rfl | exact isR_cat aref_isR | exact isR_cat kv_isR) | (right; exact hw10 _ (Option.some.inj h9))) ?_
          refine gx_goto (tgt := 125) hC dL_law_513 (by decide) ?_
          exact ih (i + 1) _ _ _ _ _ _ _ (by omega) (by omega) hE qE (by omega) hcE hw
    refine gx_iload hC dL_law_125 rfl ?_
    refine gx_bipush (v := nI 16) hC dL_law_127 bp_16n ?_
    refine gx_icmp_ge (tgt := 516) hC dL_law_129 (by decide) (fun c_129 => ?_) (fun c_129 => ?_)
    · exact law_end hC hX hbl hbz hLs hend h hq (by omega)
    · have hi16 : i < 16 := by have := mt (nI_leI (show 16 < 2 ^ 31 by decide) (show i < 2 ^ 31 by omega)).mpr c_129; omega
      refine gx_iload hC dL_law_132 rfl ?_
      refine gx_if_eq (tgt := 516) hC dL_law_134 (by decide) (fun c_134 => ?_) (fun c_134 => ?_)
      · first | exact absurd (by decide) c_134 | exact absurd c_134 (by decide)
      · refine gx_aload_n (i := 0) hC dL_law_137 rfl rfl (by first | exact Or.inr ⟨_, rfl⟩ | exact Or.inl rfl) ?_
        refine gx_iload hC dL_law_138 rfl ?_
        refine gx_iconst (v := nI 1) hC dL_law_140 ic_1n ?_
        refine gx_iadd hC dL_law_141 ?_
        rw [nI_add]
        refine gx_callSs1 hC hX hbl hbz dL_law_142 (u_cell _ _ (show i + 1 < 2 ^ 31 by omega) (show Ls < 2 ^ 31 by omega)) kY_L_cell kS_L_cell ml_L_96 (by decide) rfl rfl rfl (by first | exact Nat.le_of_ble_eq_true rfl | (simp [Value.category, isR_cat kv_isR, isR_cat aref_isR]; done)) (Nat.le_refl _) ?_
        obtain ⟨zz, hzz, ezz⟩ := cV_n xs Ls (i + 1)
        rw [ezz]
        refine gx_istore (i := 6) (L' := [_, _, _, _, _, _, _, _, _, _, _, _, _]) hC dL_law_145 (Nat.le_of_ble_eq_true rfl) rfl (fun u h9 => by first | exact Or.inl rfl | (cases h9; done) | (right; cases h9; first | rfl | exact isR_cat aref_isR | exact isR_cat kv_isR) | (right; exact hw10 _ (Option.some.inj h9))) ?_
        refine gx_iload hC dL_law_147 rfl ?_
        refine gx_iconst (v := nI 3) hC dL_law_149 ic_3n ?_
        refine gx_ishr hC dL_law_150 ?_
        rw [show nI zz >>> (nI 3 &&& 31) = nI (zz / 2 ^ 3) from pk_shrN hzz _ 3 (by decide)]
        obtain ⟨vv, hvv, evv⟩ : ∃ vv, vv < 2 ^ 31 ∧ zz / 2 ^ 3 = vv := ⟨_, by omega, rfl⟩
        rw [evv]
        refine gx_istore (i := 7) (L' := [_, _, _, _, _, _, _, _, _, _, _, _, _]) hC dL_law_151 (Nat.le_of_ble_eq_true rfl) rfl (fun u h9 => by first | exact Or.inl rfl | (cases h9; done) | (right; cases h9; first | rfl | exact isR_cat aref_isR | exact isR_cat kv_isR) | (right; exact hw10 _ (Option.some.inj h9))) ?_
        refine gx_iload hC dL_law_153 rfl ?_
        refine gx_aload_n (i := 1) hC dL_law_155 rfl rfl (by first | exact Or.inr ⟨_, rfl⟩ | exact Or.inl rfl) ?_
        refine gx_iconst (v := nI 3) hC dL_law_156 ic_3n ?_
        refine gx_callV1 hC dL_law_157 (tt3 h) kY_X6_tell kV_X6_tell ml_L_9 (by exact h.gs.at0) rfl (by decide) rfl rfl rfl (by first | exact Nat.le_of_ble_eq_true rfl | (simp [Value.category, isR_cat kv_isR, isR_cat aref_isR]; done)) (Nat.le_refl _) (Nat.le_refl _) ?_
        refine gx_irem hC dL_law_160 (nI_ne0 (by omega) (by omega)) ?_
        rw [pk_rem (by omega) (by omega) (by omega)]
        obtain ⟨ja, hja, eja⟩ : ∃ ja, ja < c ∧ vv % c = ja := ⟨_, Nat.mod_lt _ (by omega), rfl⟩
        rw [eja]
        refine gx_istore (i := 8) (L' := [_, _, _, _, _, _, _, _, _, _, _, _, _]) hC dL_law_161 (Nat.le_of_ble_eq_true rfl) rfl (fun u h9 => by first | exact Or.inl rfl | (cases h9; done) | (right; cases h9; first | rfl | exact isR_cat aref_isR | exact isR_cat kv_isR) | (right; exact hw10 _ (Option.some.inj h9))) ?_
        refine gx_iload hC dL_law_163 rfl ?_
        refine gx_bipush (v := nI 7) hC dL_law_165 bp_7n ?_
        refine gx_iand hC dL_law_167 ?_
        rw [show nI zz &&& nI 7 = nI (zz % 2 ^ 3) from pk_andN (by omega) 3 (by decide)]
        refine gx_table hC dL_law_168 (by decide) (fun c_168 tg ht => ?_) (fun j f hf hj tg ht => ?_) (by decide)
        · obtain rfl : tg = 473 := by omega
          refine gx_aload_n (i := 1) hC dL_law_473 rfl rfl (by first | exact Or.inr ⟨_, rfl⟩ | exact Or.inl rfl) ?_
          refine gx_iconst (v := nI 1) hC dL_law_474 ic_1n ?_
          refine gx_iload hC dL_law_475 rfl ?_
          refine gx_bipush (v := nI 32) hC dL_law_477 bp_32n ?_
          refine gx_idiv hC dL_law_479 (by decide) ?_
          rw [pk_div (by omega) (by omega) (by omega)]
          refine gx_bipush (v := nI 25) hC dL_law_480 bp_25n ?_
          refine gx_irem hC dL_law_482 (by decide) ?_
          rw [pk_rem (by omega) (by omega) (by omega)]
          refine gx_iadd hC dL_law_483 ?_
          rw [nI_add]
          refine gx_iload hC dL_law_484 rfl ?_
          obtain ⟨M1, R1, q1, H1, k1, hE⟩ := u_minutes X.1.2.1 z h (m := 1 + vv / 32 % 25) (a := ja) (by omega) (by omega) hja
          have qE := hq.go h.rl (1 + vv / 32 % 25)
          refine gx_callS1 hC dL_law_486 (k1) kY_L_minutes kS_L_minutes ml_L_116 (by decide) rfl rfl rfl (by first | exact Nat.le_of_ble_eq_true rfl | (simp [Value.category, isR_cat kv_isR, isR_cat aref_isR]; done)) (Nat.le_refl _) (Nat.le_refl _) ?_
          refine gx_istore (i := 4) (L' := [_, _, _, _, _, _, _, _, _, _, _, _, _]) hC dL_law_489 (Nat.le_of_ble_eq_true rfl) rfl (fun u h9 => by first | exact Or.inl rfl | (cases h9; done) | (right; cases h9; first | rfl | exact isR_cat aref_isR | exact isR_cat kv_isR) | (right; exact hw10 _ (Option.some.inj h9))) ?_
          exact j491 _ _ _ _ _ _ _ hE qE (by omega) (by omega) (by first | exact hw10 | (intro u e; cases e; rfl)) hi16
        · match j, hf with
          | 0, hf =>
            obtain rfl : tg = 204 := by simp at hf; omega
            refine gx_aload_n (i := 1) hC dL_law_204 rfl rfl (by first | exact Or.inr ⟨_, rfl⟩ | exact Or.inl rfl) ?_
            refine gx_iload hC dL_law_205 rfl ?_
            refine gx_iconst (v := nI 1) hC dL_law_207 ic_1n ?_
            refine gx_iand hC dL_law_208 ?_
            refine gx_iconst (v := nI 1) hC dL_law_209 ic_1n ?_
            refine gx_icmp_ne (tgt := 217) hC dL_law_210 (by decide) (fun c_210 => ?_) (fun c_210 => ?_)
            · obtain ⟨M1, R1, k1, h1⟩ := t_ladder (l := X.1.2.1) (z := z) h (x := nI 0) (by decide)
              have qL := hq.up (s := 6) (x := nI 0) (by decide) (by omega)
              refine gx_iconst (v := nI 0) hC dL_law_217 ic_0n ?_
              refine gx_callV1 hC dL_law_218 (k1) kY_X6_setLadder kV_X6_setLadder ml_L_104 (by exact h.gs.at0) rfl (by decide) rfl rfl rfl (by first | exact Nat.le_of_ble_eq_true rfl | (simp [Value.category, isR_cat kv_isR, isR_cat aref_isR]; done)) (Nat.le_refl _) (Nat.le_refl _) ?_
              refine gx_if_lt (tgt := 248) hC dL_law_221 (by decide) (fun c_221 => ?_) (fun c_221 => ?_)
              · first | exact absurd (by rcases h.rl.wv.au with e | e <;> (rw [e]; decide)) c_221 | exact absurd c_221 (by rcases h.rl.wv.au with e | e <;> (rw [e]; decide))
              · refine gx_aload_n (i := 1) hC dL_law_224 rfl rfl (by first | exact Or.inr ⟨_, rfl⟩ | exact Or.inl rfl) ?_
                refine gx_iload hC dL_law_225 rfl ?_
                refine gx_bipush (v := nI 6) hC dL_law_227 bp_6n ?_
                refine gx_iand hC dL_law_229 ?_
                refine gx_if_le (tgt := 237) hC dL_law_230 (by decide) (fun c_230 => ?_) (fun c_230 => ?_)
                · obtain ⟨M2, R2, k2, hE⟩ := t_runway (l := X.1.2.1) (z := z) h1 (x := nI 0) (by decide)
                  have qE := qL.up (s := 5) (x := nI 0) (by decide) (by omega)
                  refine gx_iconst (v := nI 0) hC dL_law_237 ic_0n ?_
                  refine gx_callV1 hC dL_law_238 (k2) kY_X6_setRunway kV_X6_setRunway ml_L_108 (by exact h.gs.at0) rfl (by decide) rfl rfl rfl (by first | exact Nat.le_of_ble_eq_true rfl | (simp [Value.category, isR_cat kv_isR, isR_cat aref_isR]; done)) (Nat.le_refl _) (Nat.le_refl _) ?_
                  refine gx_if_lt (tgt := 248) hC dL_law_241 (by decide) (fun c_241 => ?_) (fun c_241 => ?_)
                  · first | exact absurd (by rcases h1.rl.wv.op with e | e <;> (rw [e]; decide)) c_241 | exact absurd c_241 (by rcases h1.rl.wv.op with e | e <;> (rw [e]; decide))
                  · refine gx_iconst (v := nI 1) hC dL_law_244 ic_1n ?_
                    refine gx_goto (tgt := 249) hC dL_law_245 (by decide) ?_
                    refine gx_istore (i := 4) (L' := [_, _, _, _, _, _, _, _, _, _, _, _, _]) hC dL_law_249 (Nat.le_of_ble_eq_true rfl) rfl (fun u h9 => by first | exact Or.inl rfl | (cases h9; done) | (right; cases h9; first | rfl | exact isR_cat aref_isR | exact isR_cat kv_isR) | (right; exact hw10 _ (Option.some.inj h9))) ?_
                    refine gx_goto (tgt := 491) hC dL_law_251 (by decide) ?_
                    exact j491 _ _ _ _ _ _ _ hE qE (by omega) (by omega) (by first | exact hw10 | (intro u e; cases e; rfl)) hi16
                · obtain ⟨M2, R2, k2, hE⟩ := t_runway (l := X.1.2.1) (z := z) h1 (x := nI 1) (by decide)
                  have qE := qL.up (s := 5) (x := nI 1) (by decide) (by omega)
                  refine gx_iconst (v := nI 1) hC dL_law_233 ic_1n ?_
                  refine gx_goto (tgt := 238) hC dL_law_234 (by decide) ?_
                  refine gx_callV1 hC dL_law_238 (k2) kY_X6_setRunway kV_X6_setRunway ml_L_108 (by exact h.gs.at0) rfl (by decide) rfl rfl rfl (by first | exact Nat.le_of_ble_eq_true rfl | (simp [Value.category, isR_cat kv_isR, isR_cat aref_isR]; done)) (Nat.le_refl _) (Nat.le_refl _) ?_
                  refine gx_if_lt (tgt := 248) hC dL_law_241 (by decide) (fun c_241 => ?_) (fun c_241 => ?_)
                  · first | exact absurd (by rcases h1.rl.wv.op with e | e <;> (rw [e]; decide)) c_241 | exact absurd c_241 (by rcases h1.rl.wv.op with e | e <;> (rw [e]; decide))
                  · refine gx_iconst (v := nI 1) hC dL_law_244 ic_1n ?_
                    refine gx_goto (tgt := 249) hC dL_law_245 (by decide) ?_
                    refine gx_istore (i := 4) (L' := [_, _, _, _, _, _, _, _, _, _, _, _, _]) hC dL_law_249 (Nat.le_of_ble_eq_true rfl) rfl (fun u h9 => by first | exact Or.inl rfl | (cases h9; done) | (right; cases h9; first | rfl | exact isR_cat aref_isR | exact isR_cat kv_isR) | (right; exact hw10 _ (Option.some.inj h9))) ?_
                    refine gx_goto (tgt := 491) hC dL_law_251 (by decide) ?_
                    exact j491 _ _ _ _ _ _ _ hE qE (by omega) (by omega) (by first | exact hw10 | (intro u e; cases e; rfl)) hi16
            · obtain ⟨M1, R1, k1, h1⟩ := t_ladder (l := X.1.2.1) (z := z) h (x := nI 1) (by decide)
              have qL := hq.up (s := 6) (x := nI 1) (by decide) (by omega)
              refine gx_iconst (v := nI 1) hC dL_law_213 ic_1n ?_
              refine gx_goto (tgt := 218) hC dL_law_214 (by decide) ?_
              refine gx_callV1 hC dL_law_218 (k1) kY_X6_setLadder kV_X6_setLadder ml_L_104 (by exact h.gs.at0) rfl (by decide) rfl rfl rfl (by first | exact Nat.le_of_ble_eq_true rfl | (simp [Value.category, isR_cat kv_isR, isR_cat aref_isR]; done)) (Nat.le_refl _) (Nat.le_refl _) ?_
              refine gx_if_lt (tgt := 248) hC dL_law_221 (by decide) (fun c_221 => ?_) (fun c_221 => ?_)
              · first | exact absurd (by rcases h.rl.wv.au with e | e <;> (rw [e]; decide)) c_221 | exact absurd c_221 (by rcases h.rl.wv.au with e | e <;> (rw [e]; decide))
              · refine gx_aload_n (i := 1) hC dL_law_224 rfl rfl (by first | exact Or.inr ⟨_, rfl⟩ | exact Or.inl rfl) ?_
                refine gx_iload hC dL_law_225 rfl ?_
                refine gx_bipush (v := nI 6) hC dL_law_227 bp_6n ?_
                refine gx_iand hC dL_law_229 ?_
                refine gx_if_le (tgt := 237) hC dL_law_230 (by decide) (fun c_230 => ?_) (fun c_230 => ?_)
                · obtain ⟨M2, R2, k2, hE⟩ := t_runway (l := X.1.2.1) (z := z) h1 (x := nI 0) (by decide)
                  have qE := qL.up (s := 5) (x := nI 0) (by decide) (by omega)
                  refine gx_iconst (v := nI 0) hC dL_law_237 ic_0n ?_
                  refine gx_callV1 hC dL_law_238 (k2) kY_X6_setRunway kV_X6_setRunway ml_L_108 (by exact h.gs.at0) rfl (by decide) rfl rfl rfl (by first | exact Nat.le_of_ble_eq_true rfl | (simp [Value.category, isR_cat kv_isR, isR_cat aref_isR]; done)) (Nat.le_refl _) (Nat.le_refl _) ?_
                  refine gx_if_lt (tgt := 248) hC dL_law_241 (by decide) (fun c_241 => ?_) (fun c_241 => ?_)
                  · first | exact absurd (by rcases h1.rl.wv.op with e | e <;> (rw [e]; decide)) c_241 | exact absurd c_241 (by rcases h1.rl.wv.op with e | e <;> (rw [e]; decide))
                  · refine gx_iconst (v := nI 1) hC dL_law_244 ic_1n ?_
                    refine gx_goto (tgt := 249) hC dL_law_245 (by decide) ?_
                    refine gx_istore (i := 4) (L' := [_, _, _, _, _, _, _, _, _, _, _, _, _]) hC dL_law_249 (Nat.le_of_ble_eq_true rfl) rfl (fun u h9 => by first | exact Or.inl rfl | (cases h9; done) | (right; cases h9; first | rfl | exact isR_cat aref_isR | exact isR_cat kv_isR) | (right; exact hw10 _ (Option.some.inj h9))) ?_
                    refine gx_goto (tgt := 491) hC dL_law_251 (by decide) ?_
                    exact j491 _ _ _ _ _ _ _ hE qE (by omega) (by omega) (by first | exact hw10 | (intro u e; cases e; rfl)) hi16
                · obtain ⟨M2, R2, k2, hE⟩ := t_runway (l := X.1.2.1) (z := z) h1 (x := nI 1) (by decide)
                  have qE := qL.up (s := 5) (x := nI 1) (by decide) (by omega)
                  refine gx_iconst (v := nI 1) hC dL_law_233 ic_1n ?_
                  refine gx_goto (tgt := 238) hC dL_law_234 (by decide) ?_
                  refine gx_callV1 hC dL_law_238 (k2) kY_X6_setRunway kV_X6_setRunway ml_L_108 (by exact h.gs.at0) rfl (by decide) rfl rfl rfl (by first | exact Nat.le_of_ble_eq_true rfl | (simp [Value.category, isR_cat kv_isR, isR_cat aref_isR]; done)) (Nat.le_refl _) (Nat.le_refl _) ?_
                  refine gx_if_lt (tgt := 248) hC dL_law_241 (by decide) (fun c_241 => ?_) (fun c_241 => ?_)
                  · first | exact absurd (by rcases h1.rl.wv.op with e | e <;> (rw [e]; decide)) c_241 | exact absurd c_241 (by rcases h1.rl.wv.op with e | e <;> (rw [e]; decide))
                  · refine gx_iconst (v := nI 1) hC dL_law_244 ic_1n ?_
                    refine gx_goto (tgt := 249) hC dL_law_245 (by decide) ?_
                    refine gx_istore (i := 4) (L' := [_, _, _, _, _, _, _, _, _, _, _, _, _]) hC dL_law_249 (Nat.le_of_ble_eq_true rfl) rfl (fun u h9 => by first | exact Or.inl rfl | (cases h9; done) | (right; cases h9; first | rfl | exact isR_cat aref_isR | exact isR_cat kv_isR) | (right; exact hw10 _ (Option.some.inj h9))) ?_
                    refine gx_goto (tgt := 491) hC dL_law_251 (by decide) ?_
                    exact j491 _ _ _ _ _ _ _ hE qE (by omega) (by omega) (by first | exact hw10 | (intro u e; cases e; rfl)) hi16
          | 1, hf =>
            obtain rfl : tg = 254 := by simp at hf; omega
            obtain ⟨an, M1, R1, w1, q1, H1, k1, h1, hcs⟩ := t_call (l := X.1.2.1) (z := z) h hja
            rcases hcs with ⟨rfl, ewv, hcd⟩ | ⟨h0, rfl, hln, ewv⟩
            · rw [ewv] at h1
              by_cases h0 : v (14 + 7 * ja + 2) = 0
              · by_cases hl0 : v (14 + 7 * ja + 3) = 0
                · have hE := h1
                  have qE := hq
                  refine gx_aload_n (i := 1) hC dL_law_254 rfl rfl (by first | exact Or.inr ⟨_, rfl⟩ | exact Or.inl rfl) ?_
                  refine gx_iload hC dL_law_255 rfl ?_
                  refine gx_iconst (v := nI 3) hC dL_law_257 ic_3n ?_
                  refine gx_callV1 hC dL_law_258 (ta_h h hja h0 (w := 3) (by decide) (by decide)) kY_X6_aircraft kV_X6_aircraft ml_L_15 (by exact h.gs.at0) rfl (by decide) rfl rfl rfl (by first | exact Nat.le_of_ble_eq_true rfl | (simp [Value.category, isR_cat kv_isR, isR_cat aref_isR]; done)) (Nat.le_refl _) (Nat.le_refl _) ?_
                  refine gx_istore (i := 9) (L' := [_, _, _, _, _, _, _, _, _, _, _, _, _]) hC dL_law_261 (Nat.le_of_ble_eq_true rfl) rfl (fun u h9 => by first | exact Or.inl rfl | (cases h9; done) | (right; cases h9; first | rfl | exact isR_cat aref_isR | exact isR_cat kv_isR) | (right; exact hw10 _ (Option.some.inj h9))) ?_
                  refine gx_aload_n (i := 1) hC dL_law_263 rfl rfl (by first | exact Or.inr ⟨_, rfl⟩ | exact Or.inl rfl) ?_
                  refine gx_iload hC dL_law_264 rfl ?_
                  refine gx_callV1 hC dL_law_266 (k1) kY_X6_call kV_X6_call ml_L_89 (by exact h.gs.at0) rfl (by decide) rfl rfl rfl (by first | exact Nat.le_of_ble_eq_true rfl | (simp [Value.category, isR_cat kv_isR, isR_cat aref_isR]; done)) (Nat.le_refl _) (Nat.le_refl _) ?_
                  refine gx_istore (i := 10) (L' := [_, _, _, _, _, _, _, _, _, _, _, _, _]) hC dL_law_269 (Nat.le_of_ble_eq_true rfl) rfl (fun u h9 => by first | exact Or.inl rfl | (cases h9; done) | (right; cases h9; first | rfl | exact isR_cat aref_isR | exact isR_cat kv_isR) | (right; exact hw10 _ (Option.some.inj h9))) ?_
                  refine gx_iload hC dL_law_271 rfl ?_
                  refine gx_bipush (v := -3) hC dL_law_273 bp_m3 ?_
                  refine gx_icmp_ne (tgt := 303) hC dL_law_275 (by decide) (fun c_275 => ?_) (fun c_275 => ?_)
                  · first | exact absurd (by rfl) c_275 | exact absurd c_275 (by rfl)
                  · refine gx_iload hC dL_law_278 rfl ?_
                    refine gx_iconst (v := nI 1) hC dL_law_280 ic_1n ?_
                    refine gx_icmp_lt (tgt := 295) hC dL_law_281 (by decide) (fun c_281 => ?_) (fun c_281 => ?_)
                    · refine gx_iconst (v := nI 1) hC dL_law_295 ic_1n ?_
                      refine gx_goto (tgt := 326) hC dL_law_296 (by decide) ?_
                      refine gx_istore (i := 4) (L' := [_, _, _, _, _, _, _, _, _, _, _, _, _]) hC dL_law_326 (Nat.le_of_ble_eq_true rfl) rfl (fun u h9 => by first | exact Or.inl rfl | (cases h9; done) | (right; cases h9; first | rfl | exact isR_cat aref_isR | exact isR_cat kv_isR) | (right; exact hw10 _ (Option.some.inj h9))) ?_
                      refine gx_goto (tgt := 491) hC dL_law_328 (by decide) ?_
                      exact j491 _ _ _ _ _ _ _ hE qE (by omega) (by omega) (by first | exact hw10 | (intro u e; cases e; rfl)) hi16
                    · first | exact absurd (by rw [hl0]; decide) c_281 | exact absurd c_281 (by rw [hl0]; decide)
                · have hca : v (14 + 7 * ja + 5) = 1 := by
                    rcases hcd with q | q | q
                    · exact absurd h0 q
                    · exact absurd q hl0
                    · exact q
                  by_cases hl1 : v (14 + 7 * ja + 3) < nI 1
                  · have hE := h1
                    have qE := hq
                    refine gx_aload_n (i := 1) hC dL_law_254 rfl rfl (by first | exact Or.inr ⟨_, rfl⟩ | exact Or.inl rfl) ?_
                    refine gx_iload hC dL_law_255 rfl ?_
                    refine gx_iconst (v := nI 3) hC dL_law_257 ic_3n ?_
                    refine gx_callV1 hC dL_law_258 (ta_h h hja h0 (w := 3) (by decide) (by decide)) kY_X6_aircraft kV_X6_aircraft ml_L_15 (by exact h.gs.at0) rfl (by decide) rfl rfl rfl (by first | exact Nat.le_of_ble_eq_true rfl | (simp [Value.category, isR_cat kv_isR, isR_cat aref_isR]; done)) (Nat.le_refl _) (Nat.le_refl _) ?_
                    refine gx_istore (i := 9) (L' := [_, _, _, _, _, _, _, _, _, _, _, _, _]) hC dL_law_261 (Nat.le_of_ble_eq_true rfl) rfl (fun u h9 => by first | exact Or.inl rfl | (cases h9; done) | (right; cases h9; first | rfl | exact isR_cat aref_isR | exact isR_cat kv_isR) | (right; exact hw10 _ (Option.some.inj h9))) ?_
                    refine gx_aload_n (i := 1) hC dL_law_263 rfl rfl (by first | exact Or.inr ⟨_, rfl⟩ | exact Or.inl rfl) ?_
                    refine gx_iload hC dL_law_264 rfl ?_
                    refine gx_callV1 hC dL_law_266 (k1) kY_X6_call kV_X6_call ml_L_89 (by exact h.gs.at0) rfl (by decide) rfl rfl rfl (by first | exact Nat.le_of_ble_eq_true rfl | (simp [Value.category, isR_cat kv_isR, isR_cat aref_isR]; done)) (Nat.le_refl _) (Nat.le_refl _) ?_
                    refine gx_istore (i := 10) (L' := [_, _, _, _, _, _, _, _, _, _, _, _, _]) hC dL_law_269 (Nat.le_of_ble_eq_true rfl) rfl (fun u h9 => by first | exact Or.inl rfl | (cases h9; done) | (right; cases h9; first | rfl | exact isR_cat aref_isR | exact isR_cat kv_isR) | (right; exact hw10 _ (Option.some.inj h9))) ?_
                    refine gx_iload hC dL_law_271 rfl ?_
                    refine gx_bipush (v := -3) hC dL_law_273 bp_m3 ?_
                    refine gx_icmp_ne (tgt := 303) hC dL_law_275 (by decide) (fun c_275 => ?_) (fun c_275 => ?_)
                    · first | exact absurd (by rfl) c_275 | exact absurd c_275 (by rfl)
                    · refine gx_iload hC dL_law_278 rfl ?_
                      refine gx_iconst (v := nI 1) hC dL_law_280 ic_1n ?_
                      refine gx_icmp_lt (tgt := 295) hC dL_law_281 (by decide) (fun c_281 => ?_) (fun c_281 => ?_)
                      · refine gx_iconst (v := nI 1) hC dL_law_295 ic_1n ?_
                        refine gx_goto (tgt := 326) hC dL_law_296 (by decide) ?_
                        refine gx_istore (i := 4) (L' := [_, _, _, _, _, _, _, _, _, _, _, _, _]) hC dL_law_326 (Nat.le_of_ble_eq_true rfl) rfl (fun u h9 => by first | exact Or.inl rfl | (cases h9; done) | (right; cases h9; first | rfl | exact isR_cat aref_isR | exact isR_cat kv_isR) | (right; exact hw10 _ (Option.some.inj h9))) ?_
                        refine gx_goto (tgt := 491) hC dL_law_328 (by decide) ?_
                        exact j491 _ _ _ _ _ _ _ hE qE (by omega) (by omega) (by first | exact hw10 | (intro u e; cases e; rfl)) hi16
                      · first | exact absurd (by exact hl1) c_281 | exact absurd c_281 (by exact hl1)
                  · have hE := h1
                    have qE := hq
                    refine gx_aload_n (i := 1) hC dL_law_254 rfl rfl (by first | exact Or.inr ⟨_, rfl⟩ | exact Or.inl rfl) ?_
                    refine gx_iload hC dL_law_255 rfl ?_
                    refine gx_iconst (v := nI 3) hC dL_law_257 ic_3n ?_
                    refine gx_callV1 hC dL_law_258 (ta_h h hja h0 (w := 3) (by decide) (by decide)) kY_X6_aircraft kV_X6_aircraft ml_L_15 (by exact h.gs.at0) rfl (by decide) rfl rfl rfl (by first | exact Nat.le_of_ble_eq_true rfl | (simp [Value.category, isR_cat kv_isR, isR_cat aref_isR]; done)) (Nat.le_refl _) (Nat.le_refl _) ?_
                    refine gx_istore (i := 9) (L' := [_, _, _, _, _, _, _, _, _, _, _, _, _]) hC dL_law_261 (Nat.le_of_ble_eq_true rfl) rfl (fun u h9 => by first | exact Or.inl rfl | (cases h9; done) | (right; cases h9; first | rfl | exact isR_cat aref_isR | exact isR_cat kv_isR) | (right; exact hw10 _ (Option.some.inj h9))) ?_
                    refine gx_aload_n (i := 1) hC dL_law_263 rfl rfl (by first | exact Or.inr ⟨_, rfl⟩ | exact Or.inl rfl) ?_
                    refine gx_iload hC dL_law_264 rfl ?_
                    refine gx_callV1 hC dL_law_266 (k1) kY_X6_call kV_X6_call ml_L_89 (by exact h.gs.at0) rfl (by decide) rfl rfl rfl (by first | exact Nat.le_of_ble_eq_true rfl | (simp [Value.category, isR_cat kv_isR, isR_cat aref_isR]; done)) (Nat.le_refl _) (Nat.le_refl _) ?_
                    refine gx_istore (i := 10) (L' := [_, _, _, _, _, _, _, _, _, _, _, _, _]) hC dL_law_269 (Nat.le_of_ble_eq_true rfl) rfl (fun u h9 => by first | exact Or.inl rfl | (cases h9; done) | (right; cases h9; first | rfl | exact isR_cat aref_isR | exact isR_cat kv_isR) | (right; exact hw10 _ (Option.some.inj h9))) ?_
                    refine gx_iload hC dL_law_271 rfl ?_
                    refine gx_bipush (v := -3) hC dL_law_273 bp_m3 ?_
                    refine gx_icmp_ne (tgt := 303) hC dL_law_275 (by decide) (fun c_275 => ?_) (fun c_275 => ?_)
                    · first | exact absurd (by rfl) c_275 | exact absurd c_275 (by rfl)
                    · refine gx_iload hC dL_law_278 rfl ?_
                      refine gx_iconst (v := nI 1) hC dL_law_280 ic_1n ?_
                      refine gx_icmp_lt (tgt := 295) hC dL_law_281 (by decide) (fun c_281 => ?_) (fun c_281 => ?_)
                      · first | exact absurd (by exact hl1) c_281 | exact absurd c_281 (by exact hl1)
                      · refine gx_aload_n (i := 1) hC dL_law_284 rfl rfl (by first | exact Or.inr ⟨_, rfl⟩ | exact Or.inl rfl) ?_
                        refine gx_iload hC dL_law_285 rfl ?_
                        refine gx_iconst (v := nI 5) hC dL_law_287 ic_5n ?_
                        refine gx_callV1 hC dL_law_288 (ta_h h1 hja h0 (w := 5) (by decide) (by decide)) kY_X6_aircraft kV_X6_aircraft ml_L_15 (by exact h.gs.at0) rfl (by decide) rfl rfl rfl (by first | exact Nat.le_of_ble_eq_true rfl | (simp [Value.category, isR_cat kv_isR, isR_cat aref_isR]; done)) (Nat.le_refl _) (Nat.le_refl _) ?_
                        refine gx_iconst (v := nI 1) hC dL_law_291 ic_1n ?_
                        refine gx_icmp_ne (tgt := 299) hC dL_law_292 (by decide) (fun c_292 => ?_) (fun c_292 => ?_)
                        · first | exact absurd (by exact hca) c_292 | exact absurd c_292 (by exact hca)
                        · refine gx_iconst (v := nI 1) hC dL_law_295 ic_1n ?_
                          refine gx_goto (tgt := 326) hC dL_law_296 (by decide) ?_
                          refine gx_istore (i := 4) (L' := [_, _, _, _, _, _, _, _, _, _, _, _, _]) hC dL_law_326 (Nat.le_of_ble_eq_true rfl) rfl (fun u h9 => by first | exact Or.inl rfl | (cases h9; done) | (right; cases h9; first | rfl | exact isR_cat aref_isR | exact isR_cat kv_isR) | (right; exact hw10 _ (Option.some.inj h9))) ?_
                          refine gx_goto (tgt := 491) hC dL_law_328 (by decide) ?_
                          exact j491 _ _ _ _ _ _ _ hE qE (by omega) (by omega) (by first | exact hw10 | (intro u e; cases e; rfl)) hi16
              · have hE := h1
                have qE := hq
                refine gx_aload_n (i := 1) hC dL_law_254 rfl rfl (by first | exact Or.inr ⟨_, rfl⟩ | exact Or.inl rfl) ?_
                refine gx_iload hC dL_law_255 rfl ?_
                refine gx_iconst (v := nI 3) hC dL_law_257 ic_3n ?_
                refine gx_callV1 hC dL_law_258 (ta_n h hja h0 (w := 3) (by decide) (by decide)) kY_X6_aircraft kV_X6_aircraft ml_L_15 (by exact h.gs.at0) rfl (by decide) rfl rfl rfl (by first | exact Nat.le_of_ble_eq_true rfl | (simp [Value.category, isR_cat kv_isR, isR_cat aref_isR]; done)) (Nat.le_refl _) (Nat.le_refl _) ?_
                refine gx_istore (i := 9) (L' := [_, _, _, _, _, _, _, _, _, _, _, _, _]) hC dL_law_261 (Nat.le_of_ble_eq_true rfl) rfl (fun u h9 => by first | exact Or.inl rfl | (cases h9; done) | (right; cases h9; first | rfl | exact isR_cat aref_isR | exact isR_cat kv_isR) | (right; exact hw10 _ (Option.some.inj h9))) ?_
                refine gx_aload_n (i := 1) hC dL_law_263 rfl rfl (by first | exact Or.inr ⟨_, rfl⟩ | exact Or.inl rfl) ?_
                refine gx_iload hC dL_law_264 rfl ?_
                refine gx_callV1 hC dL_law_266 (k1) kY_X6_call kV_X6_call ml_L_89 (by exact h.gs.at0) rfl (by decide) rfl rfl rfl (by first | exact Nat.le_of_ble_eq_true rfl | (simp [Value.category, isR_cat kv_isR, isR_cat aref_isR]; done)) (Nat.le_refl _) (Nat.le_refl _) ?_
                refine gx_istore (i := 10) (L' := [_, _, _, _, _, _, _, _, _, _, _, _, _]) hC dL_law_269 (Nat.le_of_ble_eq_true rfl) rfl (fun u h9 => by first | exact Or.inl rfl | (cases h9; done) | (right; cases h9; first | rfl | exact isR_cat aref_isR | exact isR_cat kv_isR) | (right; exact hw10 _ (Option.some.inj h9))) ?_
                refine gx_iload hC dL_law_271 rfl ?_
                refine gx_bipush (v := -3) hC dL_law_273 bp_m3 ?_
                refine gx_icmp_ne (tgt := 303) hC dL_law_275 (by decide) (fun c_275 => ?_) (fun c_275 => ?_)
                · first | exact absurd (by rfl) c_275 | exact absurd c_275 (by rfl)
                · refine gx_iload hC dL_law_278 rfl ?_
                  refine gx_iconst (v := nI 1) hC dL_law_280 ic_1n ?_
                  refine gx_icmp_lt (tgt := 295) hC dL_law_281 (by decide) (fun c_281 => ?_) (fun c_281 => ?_)
                  · refine gx_iconst (v := nI 1) hC dL_law_295 ic_1n ?_
                    refine gx_goto (tgt := 326) hC dL_law_296 (by decide) ?_
                    refine gx_istore (i := 4) (L' := [_, _, _, _, _, _, _, _, _, _, _, _, _]) hC dL_law_326 (Nat.le_of_ble_eq_true rfl) rfl (fun u h9 => by first | exact Or.inl rfl | (cases h9; done) | (right; cases h9; first | rfl | exact isR_cat aref_isR | exact isR_cat kv_isR) | (right; exact hw10 _ (Option.some.inj h9))) ?_
                    refine gx_goto (tgt := 491) hC dL_law_328 (by decide) ?_
                    exact j491 _ _ _ _ _ _ _ hE qE (by omega) (by omega) (by first | exact hw10 | (intro u e; cases e; rfl)) hi16
                  · first | exact absurd (by decide) c_281 | exact absurd c_281 (by decide)
            · rw [ewv] at h1
              obtain ⟨le, hle, ele⟩ := (h.rl.wv.ac hja).le h0
              have hE := h1
              have qE := hq.up (s := 14 + 7 * ja + 5) (x := 1) (by omega) (by omega)
              have h0w : upd v (14 + 7 * ja + 5) 1 (14 + 7 * ja + 2) = 0 := by rw [upd_n (by omega)]; exact h0
              refine gx_aload_n (i := 1) hC dL_law_254 rfl rfl (by first | exact Or.inr ⟨_, rfl⟩ | exact Or.inl rfl) ?_
              refine gx_iload hC dL_law_255 rfl ?_
              refine gx_iconst (v := nI 3) hC dL_law_257 ic_3n ?_
              refine gx_callV1 hC dL_law_258 (ta_h h hja h0 (w := 3) (by decide) (by decide)) kY_X6_aircraft kV_X6_aircraft ml_L_15 (by exact h.gs.at0) rfl (by decide) rfl rfl rfl (by first | exact Nat.le_of_ble_eq_true rfl | (simp [Value.category, isR_cat kv_isR, isR_cat aref_isR]; done)) (Nat.le_refl _) (Nat.le_refl _) ?_
              refine gx_istore (i := 9) (L' := [_, _, _, _, _, _, _, _, _, _, _, _, _]) hC dL_law_261 (Nat.le_of_ble_eq_true rfl) rfl (fun u h9 => by first | exact Or.inl rfl | (cases h9; done) | (right; cases h9; first | rfl | exact isR_cat aref_isR | exact isR_cat kv_isR) | (right; exact hw10 _ (Option.some.inj h9))) ?_
              refine gx_aload_n (i := 1) hC dL_law_263 rfl rfl (by first | exact Or.inr ⟨_, rfl⟩ | exact Or.inl rfl) ?_
              refine gx_iload hC dL_law_264 rfl ?_
              refine gx_callV1 hC dL_law_266 (k1) kY_X6_call kV_X6_call ml_L_89 (by exact h.gs.at0) rfl (by decide) rfl rfl rfl (by first | exact Nat.le_of_ble_eq_true rfl | (simp [Value.category, isR_cat kv_isR, isR_cat aref_isR]; done)) (Nat.le_refl _) (Nat.le_refl _) ?_
              refine gx_istore (i := 10) (L' := [_, _, _, _, _, _, _, _, _, _, _, _, _]) hC dL_law_269 (Nat.le_of_ble_eq_true rfl) rfl (fun u h9 => by first | exact Or.inl rfl | (cases h9; done) | (right; cases h9; first | rfl | exact isR_cat aref_isR | exact isR_cat kv_isR) | (right; exact hw10 _ (Option.some.inj h9))) ?_
              refine gx_iload hC dL_law_271 rfl ?_
              refine gx_bipush (v := -3) hC dL_law_273 bp_m3 ?_
              refine gx_icmp_ne (tgt := 303) hC dL_law_275 (by decide) (fun c_275 => ?_) (fun c_275 => ?_)
              · refine gx_iload hC dL_law_303 rfl ?_
                refine gx_iload hC dL_law_305 rfl ?_
                refine gx_icmp_ne (tgt := 325) hC dL_law_307 (by decide) (fun c_307 => ?_) (fun c_307 => ?_)
                · first | exact absurd (by rfl) c_307 | exact absurd c_307 (by rfl)
                · refine gx_aload_n (i := 1) hC dL_law_310 rfl rfl (by first | exact Or.inr ⟨_, rfl⟩ | exact Or.inl rfl) ?_
                  refine gx_iload hC dL_law_311 rfl ?_
                  refine gx_iconst (v := nI 5) hC dL_law_313 ic_5n ?_
                  refine gx_callV1 hC dL_law_314 (ta_h h1 hja h0w (w := 5) (by decide) (by decide)) kY_X6_aircraft kV_X6_aircraft ml_L_15 (by exact h.gs.at0) rfl (by decide) rfl rfl rfl (by first | exact Nat.le_of_ble_eq_true rfl | (simp [Value.category, isR_cat kv_isR, isR_cat aref_isR]; done)) (Nat.le_refl _) (Nat.le_refl _) ?_
                  refine gx_iconst (v := nI 1) hC dL_law_317 ic_1n ?_
                  refine gx_icmp_ne (tgt := 325) hC dL_law_318 (by decide) (fun c_318 => ?_) (fun c_318 => ?_)
                  · first | exact absurd (by exact upd_s) c_318 | exact absurd c_318 (by exact upd_s)
                  · refine gx_iconst (v := nI 1) hC dL_law_321 ic_1n ?_
                    refine gx_goto (tgt := 326) hC dL_law_322 (by decide) ?_
                    refine gx_istore (i := 4) (L' := [_, _, _, _, _, _, _, _, _, _, _, _, _]) hC dL_law_326 (Nat.le_of_ble_eq_true rfl) rfl (fun u h9 => by first | exact Or.inl rfl | (cases h9; done) | (right; cases h9; first | rfl | exact isR_cat aref_isR | exact isR_cat kv_isR) | (right; exact hw10 _ (Option.some.inj h9))) ?_
                    refine gx_goto (tgt := 491) hC dL_law_328 (by decide) ?_
                    exact j491 _ _ _ _ _ _ _ hE qE (by omega) (by omega) (by first | exact hw10 | (intro u e; cases e; rfl)) hi16
              · first | exact absurd (by rw [ele]; exact nI_nm (by omega) (by decide)) c_275 | exact absurd c_275 (by rw [ele]; exact nI_nm (by omega) (by decide))
          | 2, hf =>
            obtain rfl : tg = 331 := by simp at hf; omega
            refine gx_aload_n (i := 1) hC dL_law_331 rfl rfl (by first | exact Or.inr ⟨_, rfl⟩ | exact Or.inl rfl) ?_
            refine gx_iload hC dL_law_332 rfl ?_
            refine gx_iconst (v := nI 3) hC dL_law_334 ic_3n ?_
            refine gx_irem hC dL_law_335 (by decide) ?_
            rw [pk_rem (by omega) (by omega) (by omega)]
            refine gx_iconst (v := nI 1) hC dL_law_336 ic_1n ?_
            refine gx_iload hC dL_law_337 rfl ?_
            refine gx_iconst (v := nI 4) hC dL_law_339 ic_4n ?_
            refine gx_idiv hC dL_law_340 (by decide) ?_
            rw [pk_div (by omega) (by omega) (by omega)]
            refine gx_sipush (v := nI 900) hC dL_law_341 sp_900n ?_
            refine gx_irem hC dL_law_344 (by decide) ?_
            rw [pk_rem (by omega) (by omega) (by omega)]
            refine gx_iadd hC dL_law_345 ?_
            rw [nI_add]
            refine gx_iload hC dL_law_346 rfl ?_
            refine gx_sipush (v := nI 4096) hC dL_law_348 sp_4096n ?_
            refine gx_idiv hC dL_law_351 (by decide) ?_
            rw [pk_div (by omega) (by omega) (by omega)]
            refine gx_iload_n (i := 3) hC dL_law_352 rfl rfl ?_
            refine gx_irem hC dL_law_353 (nI_ne0 (by omega) (by omega)) ?_
            rw [pk_rem (by omega) (by omega) (by omega)]
            refine gx_iconst (v := nI 1) hC dL_law_354 ic_1n ?_
            refine gx_iload hC dL_law_355 rfl ?_
            refine gx_ldc hC dL_law_357 kc_L_111 ?_
            rw [show (65536 : Int32) = nI 65536 from rfl]
            refine gx_idiv hC dL_law_359 (by decide) ?_
            rw [pk_div (by omega) (by omega) (by omega)]
            refine gx_bipush (v := nI 40) hC dL_law_360 bp_40n ?_
            refine gx_irem hC dL_law_362 (by decide) ?_
            rw [pk_rem (by omega) (by omega) (by omega)]
            refine gx_iadd hC dL_law_363 ?_
            rw [nI_add]
            obtain ⟨M1, R1, w1, c1, q1, H1, k1, hE, qE, hcc⟩ := u_texts X.1.2.1 z h hq (k := vv % 3) (fu := 1 + vv / 4 % 900) (le := vv / 4096 % lv) (m := 1 + vv / 65536 % 40) (by omega) (by omega) (by omega) (Nat.mod_lt _ (by omega)) (by omega) (by omega)
            refine gx_callS1 hC dL_law_364 (k1) kY_L_texts kS_L_texts ml_L_112 (by decide) rfl rfl rfl (by first | exact Nat.le_of_ble_eq_true rfl | (simp [Value.category, isR_cat kv_isR, isR_cat aref_isR]; done)) (Nat.le_refl _) (Nat.le_refl _) ?_
            refine gx_istore (i := 4) (L' := [_, _, _, _, _, _, _, _, _, _, _, _, _]) hC dL_law_367 (Nat.le_of_ble_eq_true rfl) rfl (fun u h9 => by first | exact Or.inl rfl | (cases h9; done) | (right; cases h9; first | rfl | exact isR_cat aref_isR | exact isR_cat kv_isR) | (right; exact hw10 _ (Option.some.inj h9))) ?_
            refine gx_goto (tgt := 491) hC dL_law_369 (by decide) ?_
            exact j491 _ _ _ _ _ _ _ hE qE (by omega) (by omega) (by first | exact hw10 | (intro u e; cases e; rfl)) hi16
          | 3, hf =>
            obtain rfl : tg = 372 := by simp at hf; omega
            obtain ⟨ab, M1, kb, hb, hab⟩ := t_best (l := X.1.2.1) (z := z) h (x := nI (vv % 3)) (u := 30 + vv / 4 % 1500) (hk_n (by omega)) (by omega) (by omega)
            rcases hab with ⟨e20, rfl⟩ | ⟨hc20, rfl⟩
            · have hE := hb
              have qE := hq
              refine gx_aload_n (i := 1) hC dL_law_372 rfl rfl (by first | exact Or.inr ⟨_, rfl⟩ | exact Or.inl rfl) ?_
              refine gx_iload hC dL_law_373 rfl ?_
              refine gx_iconst (v := nI 3) hC dL_law_375 ic_3n ?_
              refine gx_irem hC dL_law_376 (by decide) ?_
              rw [pk_rem (by omega) (by omega) (by omega)]
              refine gx_bipush (v := nI 30) hC dL_law_377 bp_30n ?_
              refine gx_iload hC dL_law_379 rfl ?_
              refine gx_iconst (v := nI 4) hC dL_law_381 ic_4n ?_
              refine gx_idiv hC dL_law_382 (by decide) ?_
              rw [pk_div (by omega) (by omega) (by omega)]
              refine gx_sipush (v := nI 1500) hC dL_law_383 sp_1500n ?_
              refine gx_irem hC dL_law_386 (by decide) ?_
              rw [pk_rem (by omega) (by omega) (by omega)]
              refine gx_iadd hC dL_law_387 ?_
              rw [nI_add]
              refine gx_callV1 hC dL_law_388 (kb) kY_X6_bestLevel kV_X6_bestLevel ml_L_92 (by exact h.gs.at0) rfl (by decide) rfl rfl rfl (by first | exact Nat.le_of_ble_eq_true rfl | (simp [Value.category, isR_cat kv_isR, isR_cat aref_isR]; done)) (Nat.le_refl _) (Nat.le_refl _) ?_
              refine gx_istore (i := 11) (L' := [_, _, _, _, _, _, _, _, _, _, _, _, _]) hC dL_law_391 (Nat.le_of_ble_eq_true rfl) rfl (fun u h9 => by first | exact Or.inl rfl | (cases h9; done) | (right; cases h9; first | rfl | exact isR_cat aref_isR | exact isR_cat kv_isR) | (right; exact hw10 _ (Option.some.inj h9))) ?_
              refine gx_iload hC dL_law_393 rfl ?_
              refine gx_if_lt (tgt := 422) hC dL_law_395 (by decide) (fun c_395 => ?_) (fun c_395 => ?_)
              · refine gx_bipush (v := -6) hC dL_law_422 bp_m6 ?_
                refine gx_istore (i := 12) (L' := [_, _, _, _, _, _, _, _, _, _, _, _, _]) hC dL_law_424 (Nat.le_of_ble_eq_true rfl) rfl (fun u h9 => by first | exact Or.inl rfl | (cases h9; done) | (right; cases h9; first | rfl | exact isR_cat aref_isR | exact isR_cat kv_isR) | (right; exact hw10 _ (Option.some.inj h9))) ?_
                refine gx_iload hC dL_law_426 rfl ?_
                refine gx_bipush (v := -6) hC dL_law_428 bp_m6 ?_
                refine gx_icmp_eq (tgt := 463) hC dL_law_430 (by decide) (fun c_430 => ?_) (fun c_430 => ?_)
                · first | exact absurd (by decide) c_430 | exact absurd c_430 (by decide)
                · refine gx_iload hC dL_law_433 rfl ?_
                  refine gx_bipush (v := -4) hC dL_law_435 bp_m4 ?_
                  refine gx_icmp_eq (tgt := 463) hC dL_law_437 (by decide) (fun c_437 => ?_) (fun c_437 => ?_)
                  · refine gx_iconst (v := nI 1) hC dL_law_463 ic_1n ?_
                    refine gx_goto (tgt := 468) hC dL_law_464 (by decide) ?_
                    refine gx_istore (i := 4) (L' := [_, _, _, _, _, _, _, _, _, _, _, _, _]) hC dL_law_468 (Nat.le_of_ble_eq_true rfl) rfl (fun u h9 => by first | exact Or.inl rfl | (cases h9; done) | (right; cases h9; first | rfl | exact isR_cat aref_isR | exact isR_cat kv_isR) | (right; exact hw10 _ (Option.some.inj h9))) ?_
                    refine gx_goto (tgt := 491) hC dL_law_470 (by decide) ?_
                    exact j491 _ _ _ _ _ _ _ hE qE (by omega) (by omega) (by first | exact hw10 | (intro u e; cases e; rfl)) hi16
                  · first | exact absurd (by rfl) c_437 | exact absurd c_437 (by rfl)
              · first | exact absurd (by decide) c_395 | exact absurd c_395 (by decide)
            · cases eb : (mBe v lv c (nI (vv % 3)) (nI (30 + vv / 4 % 1500)) lv).1 with
              | none =>
                rw [eb] at kb
                have hE := hb
                have qE := hq
                refine gx_aload_n (i := 1) hC dL_law_372 rfl rfl (by first | exact Or.inr ⟨_, rfl⟩ | exact Or.inl rfl) ?_
                refine gx_iload hC dL_law_373 rfl ?_
                refine gx_iconst (v := nI 3) hC dL_law_375 ic_3n ?_
                refine gx_irem hC dL_law_376 (by decide) ?_
                rw [pk_rem (by omega) (by omega) (by omega)]
                refine gx_bipush (v := nI 30) hC dL_law_377 bp_30n ?_
                refine gx_iload hC dL_law_379 rfl ?_
                refine gx_iconst (v := nI 4) hC dL_law_381 ic_4n ?_
                refine gx_idiv hC dL_law_382 (by decide) ?_
                rw [pk_div (by omega) (by omega) (by omega)]
                refine gx_sipush (v := nI 1500) hC dL_law_383 sp_1500n ?_
                refine gx_irem hC dL_law_386 (by decide) ?_
                rw [pk_rem (by omega) (by omega) (by omega)]
                refine gx_iadd hC dL_law_387 ?_
                rw [nI_add]
                refine gx_callV1 hC dL_law_388 (kb) kY_X6_bestLevel kV_X6_bestLevel ml_L_92 (by exact h.gs.at0) rfl (by decide) rfl rfl rfl (by first | exact Nat.le_of_ble_eq_true rfl | (simp [Value.category, isR_cat kv_isR, isR_cat aref_isR]; done)) (Nat.le_refl _) (Nat.le_refl _) ?_
                refine gx_istore (i := 11) (L' := [_, _, _, _, _, _, _, _, _, _, _, _, _]) hC dL_law_391 (Nat.le_of_ble_eq_true rfl) rfl (fun u h9 => by first | exact Or.inl rfl | (cases h9; done) | (right; cases h9; first | rfl | exact isR_cat aref_isR | exact isR_cat kv_isR) | (right; exact hw10 _ (Option.some.inj h9))) ?_
                refine gx_iload hC dL_law_393 rfl ?_
                refine gx_if_lt (tgt := 422) hC dL_law_395 (by decide) (fun c_395 => ?_) (fun c_395 => ?_)
                · refine gx_bipush (v := -6) hC dL_law_422 bp_m6 ?_
                  refine gx_istore (i := 12) (L' := [_, _, _, _, _, _, _, _, _, _, _, _, _]) hC dL_law_424 (Nat.le_of_ble_eq_true rfl) rfl (fun u h9 => by first | exact Or.inl rfl | (cases h9; done) | (right; cases h9; first | rfl | exact isR_cat aref_isR | exact isR_cat kv_isR) | (right; exact hw10 _ (Option.some.inj h9))) ?_
                  refine gx_iload hC dL_law_426 rfl ?_
                  refine gx_bipush (v := -6) hC dL_law_428 bp_m6 ?_
                  refine gx_icmp_eq (tgt := 463) hC dL_law_430 (by decide) (fun c_430 => ?_) (fun c_430 => ?_)
                  · refine gx_iconst (v := nI 1) hC dL_law_463 ic_1n ?_
                    refine gx_goto (tgt := 468) hC dL_law_464 (by decide) ?_
                    refine gx_istore (i := 4) (L' := [_, _, _, _, _, _, _, _, _, _, _, _, _]) hC dL_law_468 (Nat.le_of_ble_eq_true rfl) rfl (fun u h9 => by first | exact Or.inl rfl | (cases h9; done) | (right; cases h9; first | rfl | exact isR_cat aref_isR | exact isR_cat kv_isR) | (right; exact hw10 _ (Option.some.inj h9))) ?_
                    refine gx_goto (tgt := 491) hC dL_law_470 (by decide) ?_
                    exact j491 _ _ _ _ _ _ _ hE qE (by omega) (by omega) (by first | exact hw10 | (intro u e; cases e; rfl)) hi16
                  · first | exact absurd (by rfl) c_430 | exact absurd c_430 (by rfl)
                · first | exact absurd (by decide) c_395 | exact absurd c_395 (by decide)
              | some kk =>
                rw [eb] at kb
                have kb : hCt X.1.2.1 z m_X6_bestLevel [.ref (z.1 + 0), .int (nI (vv % 3)), .int (nI (30 + vv / 4 % 1500))] 215 M R 215 (some (.int (nI kk))) M1 R := kb
                have hkk := mBe_lt eb
                obtain ⟨er, em⟩ := mBe_ok _ _ eb
                obtain ⟨ae, M2, R2, wt, ct, qt, Ht, ke, he, hcs⟩ := t_enter (l := X.1.2.1) (z := z) hb (x := nI (vv % 3)) (u := 30 + vv / 4 % 1500) (i := kk) (hk_n (by omega)) (by omega) (by omega) hkk
                obtain ⟨rfl, rfl, rfl⟩ : ae = nI c ∧ wt = mEn v c (nI (vv % 3)) (nI (30 + vv / 4 % 1500)) (nI kk) ∧ ct = c + 1 := by
                  rcases hcs with ⟨e1, e2, e3, e4⟩ | ⟨e1, e2, e3, e4, e5⟩ | ⟨e1, e2, e3, e4, e5⟩
                  · omega
                  · rw [er] at e2; exact absurd e2 (by decide)
                  · exact ⟨e3, e4, e5⟩
                obtain ⟨M3, k3, hE⟩ := t_ml (l := X.1.2.1) (z := z) he (j := c) (Nat.lt_succ_self c)
                have qE := hq.en (x := nI (vv % 3)) (fu := nI (30 + vv / 4 % 1500)) (y := nI kk)
                refine gx_aload_n (i := 1) hC dL_law_372 rfl rfl (by first | exact Or.inr ⟨_, rfl⟩ | exact Or.inl rfl) ?_
                refine gx_iload hC dL_law_373 rfl ?_
                refine gx_iconst (v := nI 3) hC dL_law_375 ic_3n ?_
                refine gx_irem hC dL_law_376 (by decide) ?_
                rw [pk_rem (by omega) (by omega) (by omega)]
                refine gx_bipush (v := nI 30) hC dL_law_377 bp_30n ?_
                refine gx_iload hC dL_law_379 rfl ?_
                refine gx_iconst (v := nI 4) hC dL_law_381 ic_4n ?_
                refine gx_idiv hC dL_law_382 (by decide) ?_
                rw [pk_div (by omega) (by omega) (by omega)]
                refine gx_sipush (v := nI 1500) hC dL_law_383 sp_1500n ?_
                refine gx_irem hC dL_law_386 (by decide) ?_
                rw [pk_rem (by omega) (by omega) (by omega)]
                refine gx_iadd hC dL_law_387 ?_
                rw [nI_add]
                refine gx_callV1 hC dL_law_388 (kb) kY_X6_bestLevel kV_X6_bestLevel ml_L_92 (by exact h.gs.at0) rfl (by decide) rfl rfl rfl (by first | exact Nat.le_of_ble_eq_true rfl | (simp [Value.category, isR_cat kv_isR, isR_cat aref_isR]; done)) (Nat.le_refl _) (Nat.le_refl _) ?_
                refine gx_istore (i := 11) (L' := [_, _, _, _, _, _, _, _, _, _, _, _, _]) hC dL_law_391 (Nat.le_of_ble_eq_true rfl) rfl (fun u h9 => by first | exact Or.inl rfl | (cases h9; done) | (right; cases h9; first | rfl | exact isR_cat aref_isR | exact isR_cat kv_isR) | (right; exact hw10 _ (Option.some.inj h9))) ?_
                refine gx_iload hC dL_law_393 rfl ?_
                refine gx_if_lt (tgt := 422) hC dL_law_395 (by decide) (fun c_395 => ?_) (fun c_395 => ?_)
                · first | exact absurd (by exact nI_pos (by omega)) c_395 | exact absurd c_395 (by exact nI_pos (by omega))
                · refine gx_aload_n (i := 1) hC dL_law_398 rfl rfl (by first | exact Or.inr ⟨_, rfl⟩ | exact Or.inl rfl) ?_
                  refine gx_iload hC dL_law_399 rfl ?_
                  refine gx_iconst (v := nI 3) hC dL_law_401 ic_3n ?_
                  refine gx_irem hC dL_law_402 (by decide) ?_
                  rw [pk_rem (by omega) (by omega) (by omega)]
                  refine gx_bipush (v := nI 30) hC dL_law_403 bp_30n ?_
                  refine gx_iload hC dL_law_405 rfl ?_
                  refine gx_iconst (v := nI 4) hC dL_law_407 ic_4n ?_
                  refine gx_idiv hC dL_law_408 (by decide) ?_
                  rw [pk_div (by omega) (by omega) (by omega)]
                  refine gx_sipush (v := nI 1500) hC dL_law_409 sp_1500n ?_
                  refine gx_irem hC dL_law_412 (by decide) ?_
                  rw [pk_rem (by omega) (by omega) (by omega)]
                  refine gx_iadd hC dL_law_413 ?_
                  rw [nI_add]
                  refine gx_iload hC dL_law_414 rfl ?_
                  refine gx_callV1 hC dL_law_416 (ke) kY_X6_enter kV_X6_enter ml_L_72 (by exact h.gs.at0) rfl (by decide) rfl rfl rfl (by first | exact Nat.le_of_ble_eq_true rfl | (simp [Value.category, isR_cat kv_isR, isR_cat aref_isR]; done)) (Nat.le_refl _) (Nat.le_refl _) ?_
                  refine gx_goto (tgt := 424) hC dL_law_419 (by decide) ?_
                  refine gx_istore (i := 12) (L' := [_, _, _, _, _, _, _, _, _, _, _, _, _]) hC dL_law_424 (Nat.le_of_ble_eq_true rfl) rfl (fun u h9 => by first | exact Or.inl rfl | (cases h9; done) | (right; cases h9; first | rfl | exact isR_cat aref_isR | exact isR_cat kv_isR) | (right; exact hw10 _ (Option.some.inj h9))) ?_
                  refine gx_iload hC dL_law_426 rfl ?_
                  refine gx_bipush (v := -6) hC dL_law_428 bp_m6 ?_
                  refine gx_icmp_eq (tgt := 463) hC dL_law_430 (by decide) (fun c_430 => ?_) (fun c_430 => ?_)
                  · first | exact absurd (by exact nI_nm (by omega) (by decide)) c_430 | exact absurd c_430 (by exact nI_nm (by omega) (by decide))
                  · refine gx_iload hC dL_law_433 rfl ?_
                    refine gx_bipush (v := -4) hC dL_law_435 bp_m4 ?_
                    refine gx_icmp_eq (tgt := 463) hC dL_law_437 (by decide) (fun c_437 => ?_) (fun c_437 => ?_)
                    · first | exact absurd (by exact nI_nm (by omega) (by decide)) c_437 | exact absurd c_437 (by exact nI_nm (by omega) (by decide))
                    · refine gx_iload hC dL_law_440 rfl ?_
                      refine gx_if_lt (tgt := 467) hC dL_law_442 (by decide) (fun c_442 => ?_) (fun c_442 => ?_)
                      · first | exact absurd (by exact nI_pos (by omega)) c_442 | exact absurd c_442 (by exact nI_pos (by omega))
                      · refine gx_aload_n (i := 1) hC dL_law_445 rfl rfl (by first | exact Or.inr ⟨_, rfl⟩ | exact Or.inl rfl) ?_
                        refine gx_iload hC dL_law_446 rfl ?_
                        refine gx_callV1 hC dL_law_448 (k3) kY_X6_minutesLeft kV_X6_minutesLeft ml_L_28 (by exact h.gs.at0) rfl (by decide) rfl rfl rfl (by first | exact Nat.le_of_ble_eq_true rfl | (simp [Value.category, isR_cat kv_isR, isR_cat aref_isR]; done)) (Nat.le_refl _) (Nat.le_refl _) ?_
                        refine gx_if_lt (tgt := 467) hC dL_law_451 (by decide) (fun c_451 => ?_) (fun c_451 => ?_)
                        · first | exact absurd (by exact Int32.not_lt.mpr em) c_451 | exact absurd c_451 (by exact Int32.not_lt.mpr em)
                        · refine gx_aload_n (i := 1) hC dL_law_454 rfl rfl (by first | exact Or.inr ⟨_, rfl⟩ | exact Or.inl rfl) ?_
                          refine gx_bipush (v := nI 16) hC dL_law_455 bp_16n ?_
                          refine gx_callV1 hC dL_law_457 (tt16 hE) kY_X6_tell kV_X6_tell ml_L_9 (by exact h.gs.at0) rfl (by decide) rfl rfl rfl (by first | exact Nat.le_of_ble_eq_true rfl | (simp [Value.category, isR_cat kv_isR, isR_cat aref_isR]; done)) (Nat.le_refl _) (Nat.le_refl _) ?_
                          refine gx_if_ne (tgt := 467) hC dL_law_460 (by decide) (fun c_460 => ?_) (fun c_460 => ?_)
                          · first | exact absurd (by exact mEn_13) c_460 | exact absurd c_460 (by exact mEn_13)
                          · refine gx_iconst (v := nI 1) hC dL_law_463 ic_1n ?_
                            refine gx_goto (tgt := 468) hC dL_law_464 (by decide) ?_
                            refine gx_istore (i := 4) (L' := [_, _, _, _, _, _, _, _, _, _, _, _, _]) hC dL_law_468 (Nat.le_of_ble_eq_true rfl) rfl (fun u h9 => by first | exact Or.inl rfl | (cases h9; done) | (right; cases h9; first | rfl | exact isR_cat aref_isR | exact isR_cat kv_isR) | (right; exact hw10 _ (Option.some.inj h9))) ?_
                            refine gx_goto (tgt := 491) hC dL_law_470 (by decide) ?_
                            exact j491 _ _ _ _ _ _ _ hE qE (by omega) (by omega) (by first | exact hw10 | (intro u e; cases e; rfl)) hi16
          | 4, hf =>
            obtain rfl : tg = 372 := by simp at hf; omega
            obtain ⟨ab, M1, kb, hb, hab⟩ := t_best (l := X.1.2.1) (z := z) h (x := nI (vv % 3)) (u := 30 + vv / 4 % 1500) (hk_n (by omega)) (by omega) (by omega)
            rcases hab with ⟨e20, rfl⟩ | ⟨hc20, rfl⟩
            · have hE := hb
              have qE := hq
              refine gx_aload_n (i := 1) hC dL_law_372 rfl rfl (by first | exact Or.inr ⟨_, rfl⟩ | exact Or.inl rfl) ?_
              refine gx_iload hC dL_law_373 rfl ?_
              refine gx_iconst (v := nI 3) hC dL_law_375 ic_3n ?_
              refine gx_irem hC dL_law_376 (by decide) ?_
              rw [pk_rem (by omega) (by omega) (by omega)]
              refine gx_bipush (v := nI 30) hC dL_law_377 bp_30n ?_
              refine gx_iload hC dL_law_379 rfl ?_
              refine gx_iconst (v := nI 4) hC dL_law_381 ic_4n ?_
              refine gx_idiv hC dL_law_382 (by decide) ?_
              rw [pk_div (by omega) (by omega) (by omega)]
              refine gx_sipush (v := nI 1500) hC dL_law_383 sp_1500n ?_
              refine gx_irem hC dL_law_386 (by decide) ?_
              rw [pk_rem (by omega) (by omega) (by omega)]
              refine gx_iadd hC dL_law_387 ?_
              rw [nI_add]
              refine gx_callV1 hC dL_law_388 (kb) kY_X6_bestLevel kV_X6_bestLevel ml_L_92 (by exact h.gs.at0) rfl (by decide) rfl rfl rfl (by first | exact Nat.le_of_ble_eq_true rfl | (simp [Value.category, isR_cat kv_isR, isR_cat aref_isR]; done)) (Nat.le_refl _) (Nat.le_refl _) ?_
              refine gx_istore (i := 11) (L' := [_, _, _, _, _, _, _, _, _, _, _, _, _]) hC dL_law_391 (Nat.le_of_ble_eq_true rfl) rfl (fun u h9 => by first | exact Or.inl rfl | (cases h9; done) | (right; cases h9; first | rfl | exact isR_cat aref_isR | exact isR_cat kv_isR) | (right; exact hw10 _ (Option.some.inj h9))) ?_
              refine gx_iload hC dL_law_393 rfl ?_
              refine gx_if_lt (tgt := 422) hC dL_law_395 (by decide) (fun c_395 => ?_) (fun c_395 => ?_)
              · refine gx_bipush (v := -6) hC dL_law_422 bp_m6 ?_
                refine gx_istore (i := 12) (L' := [_, _, _, _, _, _, _, _, _, _, _, _, _]) hC dL_law_424 (Nat.le_of_ble_eq_true rfl) rfl (fun u h9 => by first | exact Or.inl rfl | (cases h9; done) | (right; cases h9; first | rfl | exact isR_cat aref_isR | exact isR_cat kv_isR) | (right; exact hw10 _ (Option.some.inj h9))) ?_
                refine gx_iload hC dL_law_426 rfl ?_
                refine gx_bipush (v := -6) hC dL_law_428 bp_m6 ?_
                refine gx_icmp_eq (tgt := 463) hC dL_law_430 (by decide) (fun c_430 => ?_) (fun c_430 => ?_)
                · first | exact absurd (by decide) c_430 | exact absurd c_430 (by decide)
                · refine gx_iload hC dL_law_433 rfl ?_
                  refine gx_bipush (v := -4) hC dL_law_435 bp_m4 ?_
                  refine gx_icmp_eq (tgt := 463) hC dL_law_437 (by decide) (fun c_437 => ?_) (fun c_437 => ?_)
                  · refine gx_iconst (v := nI 1) hC dL_law_463 ic_1n ?_
                    refine gx_goto (tgt := 468) hC dL_law_464 (by decide) ?_
                    refine gx_istore (i := 4) (L' := [_, _, _, _, _, _, _, _, _, _, _, _, _]) hC dL_law_468 (Nat.le_of_ble_eq_true rfl) rfl (fun u h9 => by first | exact Or.inl rfl | (cases h9; done) | (right; cases h9; first | rfl | exact isR_cat aref_isR | exact isR_cat kv_isR) | (right; exact hw10 _ (Option.some.inj h9))) ?_
                    refine gx_goto (tgt := 491) hC dL_law_470 (by decide) ?_
                    exact j491 _ _ _ _ _ _ _ hE qE (by omega) (by omega) (by first | exact hw10 | (intro u e; cases e; rfl)) hi16
                  · first | exact absurd (by rfl) c_437 | exact absurd c_437 (by rfl)
              · first | exact absurd (by decide) c_395 | exact absurd c_395 (by decide)
            · cases eb : (mBe v lv c (nI (vv % 3)) (nI (30 + vv / 4 % 1500)) lv).1 with
              | none =>
                rw [eb] at kb
                have hE := hb
                have qE := hq
                refine gx_aload_n (i := 1) hC dL_law_372 rfl rfl (by first | exact Or.inr ⟨_, rfl⟩ | exact Or.inl rfl) ?_
                refine gx_iload hC dL_law_373 rfl ?_
                refine gx_iconst (v := nI 3) hC dL_law_375 ic_3n ?_
                refine gx_irem hC dL_law_376 (by decide) ?_
                rw [pk_rem (by omega) (by omega) (by omega)]
                refine gx_bipush (v := nI 30) hC dL_law_377 bp_30n ?_
                refine gx_iload hC dL_law_379 rfl ?_
                refine gx_iconst (v := nI 4) hC dL_law_381 ic_4n ?_
                refine gx_idiv hC dL_law_382 (by decide) ?_
                rw [pk_div (by omega) (by omega) (by omega)]
                refine gx_sipush (v := nI 1500) hC dL_law_383 sp_1500n ?_
                refine gx_irem hC dL_law_386 (by decide) ?_
                rw [pk_rem (by omega) (by omega) (by omega)]
                refine gx_iadd hC dL_law_387 ?_
                rw [nI_add]
                refine gx_callV1 hC dL_law_388 (kb) kY_X6_bestLevel kV_X6_bestLevel ml_L_92 (by exact h.gs.at0) rfl (by decide) rfl rfl rfl (by first | exact Nat.le_of_ble_eq_true rfl | (simp [Value.category, isR_cat kv_isR, isR_cat aref_isR]; done)) (Nat.le_refl _) (Nat.le_refl _) ?_
                refine gx_istore (i := 11) (L' := [_, _, _, _, _, _, _, _, _, _, _, _, _]) hC dL_law_391 (Nat.le_of_ble_eq_true rfl) rfl (fun u h9 => by first | exact Or.inl rfl | (cases h9; done) | (right; cases h9; first | rfl | exact isR_cat aref_isR | exact isR_cat kv_isR) | (right; exact hw10 _ (Option.some.inj h9))) ?_
                refine gx_iload hC dL_law_393 rfl ?_
                refine gx_if_lt (tgt := 422) hC dL_law_395 (by decide) (fun c_395 => ?_) (fun c_395 => ?_)
                · refine gx_bipush (v := -6) hC dL_law_422 bp_m6 ?_
                  refine gx_istore (i := 12) (L' := [_, _, _, _, _, _, _, _, _, _, _, _, _]) hC dL_law_424 (Nat.le_of_ble_eq_true rfl) rfl (fun u h9 => by first | exact Or.inl rfl | (cases h9; done) | (right; cases h9; first | rfl | exact isR_cat aref_isR | exact isR_cat kv_isR) | (right; exact hw10 _ (Option.some.inj h9))) ?_
                  refine gx_iload hC dL_law_426 rfl ?_
                  refine gx_bipush (v := -6) hC dL_law_428 bp_m6 ?_
                  refine gx_icmp_eq (tgt := 463) hC dL_law_430 (by decide) (fun c_430 => ?_) (fun c_430 => ?_)
                  · refine gx_iconst (v := nI 1) hC dL_law_463 ic_1n ?_
                    refine gx_goto (tgt := 468) hC dL_law_464 (by decide) ?_
                    refine gx_istore (i := 4) (L' := [_, _, _, _, _, _, _, _, _, _, _, _, _]) hC dL_law_468 (Nat.le_of_ble_eq_true rfl) rfl (fun u h9 => by first | exact Or.inl rfl | (cases h9; done) | (right; cases h9; first | rfl | exact isR_cat aref_isR | exact isR_cat kv_isR) | (right; exact hw10 _ (Option.some.inj h9))) ?_
                    refine gx_goto (tgt := 491) hC dL_law_470 (by decide) ?_
                    exact j491 _ _ _ _ _ _ _ hE qE (by omega) (by omega) (by first | exact hw10 | (intro u e; cases e; rfl)) hi16
                  · first | exact absurd (by rfl) c_430 | exact absurd c_430 (by rfl)
                · first | exact absurd (by decide) c_395 | exact absurd c_395 (by decide)
              | some kk =>
                rw [eb] at kb
                have kb : hCt X.1.2.1 z m_X6_bestLevel [.ref (z.1 + 0), .int (nI (vv % 3)), .int (nI (30 + vv / 4 % 1500))] 215 M R 215 (some (.int (nI kk))) M1 R := kb
                have hkk := mBe_lt eb
                obtain ⟨er, em⟩ := mBe_ok _ _ eb
                obtain ⟨ae, M2, R2, wt, ct, qt, Ht, ke, he, hcs⟩ := t_enter (l := X.1.2.1) (z := z) hb (x := nI (vv % 3)) (u := 30 + vv / 4 % 1500) (i := kk) (hk_n (by omega)) (by omega) (by omega) hkk
                obtain ⟨rfl, rfl, rfl⟩ : ae = nI c ∧ wt = mEn v c (nI (vv % 3)) (nI (30 + vv / 4 % 1500)) (nI kk) ∧ ct = c + 1 := by
                  rcases hcs with ⟨e1, e2, e3, e4⟩ | ⟨e1, e2, e3, e4, e5⟩ | ⟨e1, e2, e3, e4, e5⟩
                  · omega
                  · rw [er] at e2; exact absurd e2 (by decide)
                  · exact ⟨e3, e4, e5⟩
                obtain ⟨M3, k3, hE⟩ := t_ml (l := X.1.2.1) (z := z) he (j := c) (Nat.lt_succ_self c)
                have qE := hq.en (x := nI (vv % 3)) (fu := nI (30 + vv / 4 % 1500)) (y := nI kk)
                refine gx_aload_n (i := 1) hC dL_law_372 rfl rfl (by first | exact Or.inr ⟨_, rfl⟩ | exact Or.inl rfl) ?_
                refine gx_iload hC dL_law_373 rfl ?_
                refine gx_iconst (v := nI 3) hC dL_law_375 ic_3n ?_
                refine gx_irem hC dL_law_376 (by decide) ?_
                rw [pk_rem (by omega) (by omega) (by omega)]
                refine gx_bipush (v := nI 30) hC dL_law_377 bp_30n ?_
                refine gx_iload hC dL_law_379 rfl ?_
                refine gx_iconst (v := nI 4) hC dL_law_381 ic_4n ?_
                refine gx_idiv hC dL_law_382 (by decide) ?_
                rw [pk_div (by omega) (by omega) (by omega)]
                refine gx_sipush (v := nI 1500) hC dL_law_383 sp_1500n ?_
                refine gx_irem hC dL_law_386 (by decide) ?_
                rw [pk_rem (by omega) (by omega) (by omega)]
                refine gx_iadd hC dL_law_387 ?_
                rw [nI_add]
                refine gx_callV1 hC dL_law_388 (kb) kY_X6_bestLevel kV_X6_bestLevel ml_L_92 (by exact h.gs.at0) rfl (by decide) rfl rfl rfl (by first | exact Nat.le_of_ble_eq_true rfl | (simp [Value.category, isR_cat kv_isR, isR_cat aref_isR]; done)) (Nat.le_refl _) (Nat.le_refl _) ?_
                refine gx_istore (i := 11) (L' := [_, _, _, _, _, _, _, _, _, _, _, _, _]) hC dL_law_391 (Nat.le_of_ble_eq_true rfl) rfl (fun u h9 => by first | exact Or.inl rfl | (cases h9; done) | (right; cases h9; first | rfl | exact isR_cat aref_isR | exact isR_cat kv_isR) | (right; exact hw10 _ (Option.some.inj h9))) ?_
                refine gx_iload hC dL_law_393 rfl ?_
                refine gx_if_lt (tgt := 422) hC dL_law_395 (by decide) (fun c_395 => ?_) (fun c_395 => ?_)
                · first | exact absurd (by exact nI_pos (by omega)) c_395 | exact absurd c_395 (by exact nI_pos (by omega))
                · refine gx_aload_n (i := 1) hC dL_law_398 rfl rfl (by first | exact Or.inr ⟨_, rfl⟩ | exact Or.inl rfl) ?_
                  refine gx_iload hC dL_law_399 rfl ?_
                  refine gx_iconst (v := nI 3) hC dL_law_401 ic_3n ?_
                  refine gx_irem hC dL_law_402 (by decide) ?_
                  rw [pk_rem (by omega) (by omega) (by omega)]
                  refine gx_bipush (v := nI 30) hC dL_law_403 bp_30n ?_
                  refine gx_iload hC dL_law_405 rfl ?_
                  refine gx_iconst (v := nI 4) hC dL_law_407 ic_4n ?_
                  refine gx_idiv hC dL_law_408 (by decide) ?_
                  rw [pk_div (by omega) (by omega) (by omega)]
                  refine gx_sipush (v := nI 1500) hC dL_law_409 sp_1500n ?_
                  refine gx_irem hC dL_law_412 (by decide) ?_
                  rw [pk_rem (by omega) (by omega) (by omega)]
                  refine gx_iadd hC dL_law_413 ?_
                  rw [nI_add]
                  refine gx_iload hC dL_law_414 rfl ?_
                  refine gx_callV1 hC dL_law_416 (ke) kY_X6_enter kV_X6_enter ml_L_72 (by exact h.gs.at0) rfl (by decide) rfl rfl rfl (by first | exact Nat.le_of_ble_eq_true rfl | (simp [Value.category, isR_cat kv_isR, isR_cat aref_isR]; done)) (Nat.le_refl _) (Nat.le_refl _) ?_
                  refine gx_goto (tgt := 424) hC dL_law_419 (by decide) ?_
                  refine gx_istore (i := 12) (L' := [_, _, _, _, _, _, _, _, _, _, _, _, _]) hC dL_law_424 (Nat.le_of_ble_eq_true rfl) rfl (fun u h9 => by first | exact Or.inl rfl | (cases h9; done) | (right; cases h9; first | rfl | exact isR_cat aref_isR | exact isR_cat kv_isR) | (right; exact hw10 _ (Option.some.inj h9))) ?_
                  refine gx_iload hC dL_law_426 rfl ?_
                  refine gx_bipush (v := -6) hC dL_law_428 bp_m6 ?_
                  refine gx_icmp_eq (tgt := 463) hC dL_law_430 (by decide) (fun c_430 => ?_) (fun c_430 => ?_)
                  · first | exact absurd (by exact nI_nm (by omega) (by decide)) c_430 | exact absurd c_430 (by exact nI_nm (by omega) (by decide))
                  · refine gx_iload hC dL_law_433 rfl ?_
                    refine gx_bipush (v := -4) hC dL_law_435 bp_m4 ?_
                    refine gx_icmp_eq (tgt := 463) hC dL_law_437 (by decide) (fun c_437 => ?_) (fun c_437 => ?_)
                    · first | exact absurd (by exact nI_nm (by omega) (by decide)) c_437 | exact absurd c_437 (by exact nI_nm (by omega) (by decide))
                    · refine gx_iload hC dL_law_440 rfl ?_
                      refine gx_if_lt (tgt := 467) hC dL_law_442 (by decide) (fun c_442 => ?_) (fun c_442 => ?_)
                      · first | exact absurd (by exact nI_pos (by omega)) c_442 | exact absurd c_442 (by exact nI_pos (by omega))
                      · refine gx_aload_n (i := 1) hC dL_law_445 rfl rfl (by first | exact Or.inr ⟨_, rfl⟩ | exact Or.inl rfl) ?_
                        refine gx_iload hC dL_law_446 rfl ?_
                        refine gx_callV1 hC dL_law_448 (k3) kY_X6_minutesLeft kV_X6_minutesLeft ml_L_28 (by exact h.gs.at0) rfl (by decide) rfl rfl rfl (by first | exact Nat.le_of_ble_eq_true rfl | (simp [Value.category, isR_cat kv_isR, isR_cat aref_isR]; done)) (Nat.le_refl _) (Nat.le_refl _) ?_
                        refine gx_if_lt (tgt := 467) hC dL_law_451 (by decide) (fun c_451 => ?_) (fun c_451 => ?_)
                        · first | exact absurd (by exact Int32.not_lt.mpr em) c_451 | exact absurd c_451 (by exact Int32.not_lt.mpr em)
                        · refine gx_aload_n (i := 1) hC dL_law_454 rfl rfl (by first | exact Or.inr ⟨_, rfl⟩ | exact Or.inl rfl) ?_
                          refine gx_bipush (v := nI 16) hC dL_law_455 bp_16n ?_
                          refine gx_callV1 hC dL_law_457 (tt16 hE) kY_X6_tell kV_X6_tell ml_L_9 (by exact h.gs.at0) rfl (by decide) rfl rfl rfl (by first | exact Nat.le_of_ble_eq_true rfl | (simp [Value.category, isR_cat kv_isR, isR_cat aref_isR]; done)) (Nat.le_refl _) (Nat.le_refl _) ?_
                          refine gx_if_ne (tgt := 467) hC dL_law_460 (by decide) (fun c_460 => ?_) (fun c_460 => ?_)
                          · first | exact absurd (by exact mEn_13) c_460 | exact absurd c_460 (by exact mEn_13)
                          · refine gx_iconst (v := nI 1) hC dL_law_463 ic_1n ?_
                            refine gx_goto (tgt := 468) hC dL_law_464 (by decide) ?_
                            refine gx_istore (i := 4) (L' := [_, _, _, _, _, _, _, _, _, _, _, _, _]) hC dL_law_468 (Nat.le_of_ble_eq_true rfl) rfl (fun u h9 => by first | exact Or.inl rfl | (cases h9; done) | (right; cases h9; first | rfl | exact isR_cat aref_isR | exact isR_cat kv_isR) | (right; exact hw10 _ (Option.some.inj h9))) ?_
                            refine gx_goto (tgt := 491) hC dL_law_470 (by decide) ?_
                            exact j491 _ _ _ _ _ _ _ hE qE (by omega) (by omega) (by first | exact hw10 | (intro u e; cases e; rfl)) hi16
          | q + 5, hf => simp at hf
set_option maxHeartbeats 4000000 in
set_option maxRecDepth 20000 in
theorem law_walk {z : hZt} {b Ls : Nat} {X : hXt} {xs : Nat → Int32} (hC : hOk z 0 X cL_law RL 13 11 215) (hX : va_X b Ls xs X.1.2.2.2.2.1 X.1.2.2.2.2.1.heap) (hbl : b < X.1.2.2.2.2.1.heap.size) (hbz : b < z.1) (hLs : Ls ≤ 260)
    (hend : ∀ M R Lc, hG z 0 X 215 M R 694 Lc [.int (nI 1)]) : hG z 0 X 0 D0 R0 0 [some (.ref b), none, none, none, none, none, none, none, none, none, none, none, none] [] := by
  have h := pi_i
  refine gx_new hC dL_law_0 cL_L_10 rfl (by decide) (fun k hk => ⟨rfl, rfl⟩) ?_
  refine gx_dup hC dL_law_3 rfl ?_
  refine gx_callI (i := 0) hC dL_law_4 (c_X6_init _ _ frs_0) kY_X6_init kI_X6_init rfl ml_L_95 (by decide) rfl rfl rfl (Nat.le_of_ble_eq_true rfl) (by decide) (by decide) ?_
  refine gx_astore_n (i := 1) (L' := [_, _, _, _, _, _, _, _, _, _, _, _, _]) hC dL_law_7 rfl (Nat.le_of_ble_eq_true rfl) rfl (fun u h9 => by first | exact Or.inl rfl | (cases h9; done) | (right; cases h9; first | rfl | exact isR_cat aref_isR | exact isR_cat kv_isR)) (by first | exact Or.inr ⟨_, rfl⟩ | exact Or.inl rfl) ?_
  refine gx_aload_n (i := 0) hC dL_law_8 rfl rfl (by first | exact Or.inr ⟨_, rfl⟩ | exact Or.inl rfl) ?_
  refine gx_iconst (v := nI 0) hC dL_law_9 ic_0n ?_
  refine gx_callSs1 hC hX hbl hbz dL_law_10 (u_cell _ _ (show 0 < 2 ^ 31 by decide) (show Ls < 2 ^ 31 by omega)) kY_L_cell kS_L_cell ml_L_96 (by decide) rfl rfl rfl (by first | exact Nat.le_of_ble_eq_true rfl | (simp [Value.category, isR_cat kv_isR, isR_cat aref_isR]; done)) (Nat.le_refl _) ?_
  obtain ⟨yy, hyy, eyy⟩ := cV_n xs Ls 0
  rw [eyy]
  refine gx_istore_n (i := 2) (L' := [_, _, _, _, _, _, _, _, _, _, _, _, _]) hC dL_law_13 rfl (Nat.le_of_ble_eq_true rfl) rfl (fun u h9 => by first | exact Or.inl rfl | (cases h9; done) | (right; cases h9; first | rfl | exact isR_cat aref_isR | exact isR_cat kv_isR)) ?_
  refine gx_iconst (v := nI 4) hC dL_law_14 ic_4n ?_
  refine gx_iload_n (i := 2) hC dL_law_15 rfl rfl ?_
  refine gx_bipush (v := nI 13) hC dL_law_16 bp_13n ?_
  refine gx_irem hC dL_law_18 (by decide) ?_
  rw [pk_rem (by omega) (by omega) (by omega)]
  refine gx_iadd hC dL_law_19 ?_
  rw [nI_add]
  refine gx_istore_n (i := 3) (L' := [_, _, _, _, _, _, _, _, _, _, _, _, _]) hC dL_law_20 rfl (Nat.le_of_ble_eq_true rfl) rfl (fun u h9 => by first | exact Or.inl rfl | (cases h9; done) | (right; cases h9; first | rfl | exact isR_cat aref_isR | exact isR_cat kv_isR)) ?_
  refine gx_aload_n (i := 1) hC dL_law_21 rfl rfl (by first | exact Or.inr ⟨_, rfl⟩ | exact Or.inl rfl) ?_
  refine gx_callV1 hC dL_law_22 (t_undo0 h) kY_X6_undo kV_X6_undo ml_L_69 (by exact h.gs.at0) rfl (by decide) rfl rfl rfl (by first | exact Nat.le_of_ble_eq_true rfl | (simp [Value.category, isR_cat kv_isR, isR_cat aref_isR]; done)) (Nat.le_refl _) (Nat.le_refl _) ?_
  refine gx_bipush (v := -3) hC dL_law_25 bp_m3 ?_
  refine gx_icmp_ne (tgt := 119) hC dL_law_27 (by decide) (fun c_27 => ?_) (fun c_27 => ?_)
  · first | exact absurd (by rfl) c_27 | exact absurd c_27 (by rfl)
  · refine gx_aload_n (i := 1) hC dL_law_30 rfl rfl (by first | exact Or.inr ⟨_, rfl⟩ | exact Or.inl rfl) ?_
    refine gx_iconst (v := nI 1) hC dL_law_31 ic_1n ?_
    refine gx_callV1 hC dL_law_32 (t_rest0 h (i := 1) (by decide) rfl) kY_X6_restore kV_X6_restore ml_L_43 (by exact h.gs.at0) rfl (by decide) rfl rfl rfl (by first | exact Nat.le_of_ble_eq_true rfl | (simp [Value.category, isR_cat kv_isR, isR_cat aref_isR]; done)) (Nat.le_refl _) (Nat.le_refl _) ?_
    refine gx_bipush (v := -3) hC dL_law_35 bp_m3 ?_
    refine gx_icmp_ne (tgt := 119) hC dL_law_37 (by decide) (fun c_37 => ?_) (fun c_37 => ?_)
    · first | exact absurd (by rfl) c_37 | exact absurd c_37 (by rfl)
    · refine gx_aload_n (i := 1) hC dL_law_40 rfl rfl (by first | exact Or.inr ⟨_, rfl⟩ | exact Or.inl rfl) ?_
      refine gx_iload_n (i := 3) hC dL_law_41 rfl rfl ?_
      obtain ⟨M1, R1, k1, h1⟩ := t_begin (l := X.1.2.1) (z := z) h (i := 4 + yy % 13) (by omega) (by omega)
      refine gx_callV1 hC dL_law_42 (k1) kY_X6_begin kV_X6_begin ml_L_80 (by exact h.gs.at0) rfl (by decide) rfl rfl rfl (by first | exact Nat.le_of_ble_eq_true rfl | (simp [Value.category, isR_cat kv_isR, isR_cat aref_isR]; done)) (Nat.le_refl _) (Nat.le_refl _) ?_
      refine gx_bipush (v := nI 10) hC dL_law_45 bp_10n ?_
      refine gx_icmp_ne (tgt := 119) hC dL_law_47 (by decide) (fun c_47 => ?_) (fun c_47 => ?_)
      · first | exact absurd (by rfl) c_47 | exact absurd c_47 (by rfl)
      · refine gx_aload_n (i := 1) hC dL_law_50 rfl rfl (by first | exact Or.inr ⟨_, rfl⟩ | exact Or.inl rfl) ?_
        refine gx_iconst (v := nI 2) hC dL_law_51 ic_2n ?_
        refine gx_iload_n (i := 2) hC dL_law_52 rfl rfl ?_
        refine gx_bipush (v := nI 16) hC dL_law_53 bp_16n ?_
        refine gx_idiv hC dL_law_55 (by decide) ?_
        rw [pk_div (by omega) (by omega) (by omega)]
        refine gx_bipush (v := nI 7) hC dL_law_56 bp_7n ?_
        refine gx_irem hC dL_law_58 (by decide) ?_
        rw [pk_rem (by omega) (by omega) (by omega)]
        refine gx_iadd hC dL_law_59 ?_
        rw [nI_add]
        obtain ⟨M2, R2, k2, h2⟩ := t_lap (l := X.1.2.1) (z := z) h1 (i := 2 + yy / 16 % 7) (by omega) (by omega)
        refine gx_callV1 hC dL_law_60 (k2) kY_X6_setLap kV_X6_setLap ml_L_83 (by exact h.gs.at0) rfl (by decide) rfl rfl rfl (by first | exact Nat.le_of_ble_eq_true rfl | (simp [Value.category, isR_cat kv_isR, isR_cat aref_isR]; done)) (Nat.le_refl _) (Nat.le_refl _) ?_
        refine gx_iconst (v := nI 4) hC dL_law_63 ic_4n ?_
        refine gx_icmp_ne (tgt := 119) hC dL_law_64 (by decide) (fun c_64 => ?_) (fun c_64 => ?_)
        · first | exact absurd (by rfl) c_64 | exact absurd c_64 (by rfl)
        · refine gx_aload_n (i := 1) hC dL_law_67 rfl rfl (by first | exact Or.inr ⟨_, rfl⟩ | exact Or.inl rfl) ?_
          refine gx_iconst (v := nI 4) hC dL_law_68 ic_4n ?_
          refine gx_iload_n (i := 2) hC dL_law_69 rfl rfl ?_
          refine gx_sipush (v := nI 128) hC dL_law_70 sp_128n ?_
          refine gx_idiv hC dL_law_73 (by decide) ?_
          rw [pk_div (by omega) (by omega) (by omega)]
          refine gx_bipush (v := nI 13) hC dL_law_74 bp_13n ?_
          refine gx_irem hC dL_law_76 (by decide) ?_
          rw [pk_rem (by omega) (by omega) (by omega)]
          refine gx_iadd hC dL_law_77 ?_
          rw [nI_add]
          obtain ⟨M3, R3, k3, h3⟩ := t_limit (l := X.1.2.1) (z := z) h2 (i := 4 + yy / 128 % 13) (by omega) (by omega)
          refine gx_callV1 hC dL_law_78 (k3) kY_X6_setLimit kV_X6_setLimit ml_L_86 (by exact h.gs.at0) rfl (by decide) rfl rfl rfl (by first | exact Nat.le_of_ble_eq_true rfl | (simp [Value.category, isR_cat kv_isR, isR_cat aref_isR]; done)) (Nat.le_refl _) (Nat.le_refl _) ?_
          refine gx_bipush (v := nI 16) hC dL_law_81 bp_16n ?_
          refine gx_icmp_ne (tgt := 119) hC dL_law_83 (by decide) (fun c_83 => ?_) (fun c_83 => ?_)
          · first | exact absurd (by rfl) c_83 | exact absurd c_83 (by rfl)
          · refine gx_aload_n (i := 1) hC dL_law_86 rfl rfl (by first | exact Or.inr ⟨_, rfl⟩ | exact Or.inl rfl) ?_
            refine gx_iconst (v := nI 0) hC dL_law_87 ic_0n ?_
            obtain ⟨M4, k4, h4⟩ := t_la (l := X.1.2.1) (z := z) h3
            refine gx_callV1 hC dL_law_88 (k4) kY_X6_lands kV_X6_lands ml_L_34 (by exact h.gs.at0) rfl (by decide) rfl rfl rfl (by first | exact Nat.le_of_ble_eq_true rfl | (simp [Value.category, isR_cat kv_isR, isR_cat aref_isR]; done)) (Nat.le_refl _) (Nat.le_refl _) ?_
            refine gx_bipush (v := -6) hC dL_law_91 bp_m6 ?_
            refine gx_icmp_ne (tgt := 119) hC dL_law_93 (by decide) (fun c_93 => ?_) (fun c_93 => ?_)
            · first | exact absurd (by rw [mLx_0]; rfl) c_93 | exact absurd c_93 (by rw [mLx_0]; rfl)
            · refine gx_aload_n (i := 1) hC dL_law_96 rfl rfl (by first | exact Or.inr ⟨_, rfl⟩ | exact Or.inl rfl) ?_
              refine gx_iconst (v := nI 0) hC dL_law_97 ic_0n ?_
              refine gx_sipush (v := nI 900) hC dL_law_98 sp_900n ?_
              refine gx_iconst (v := nI 0) hC dL_law_101 ic_0n ?_
              obtain ⟨ae, M5, R5, wt, ct, qt, Ht, k5, h5, hcs⟩ := t_enter (l := X.1.2.1) (z := z) h4 (x := nI 0) (u := 900) (i := 0) (Or.inl rfl) (by decide) (by decide) (by omega)
              have er : mRf (upd (upd (mLp (mBg vI (nI (4 + yy % 13))) (nI (2 + yy / 16 % 7)) 0) 2 (nI (2 + yy / 16 % 7))) 7 (nI (4 + yy / 128 % 13))) 0 (nI 0) (nI 900) (nI 0) = 0 := by
                have e7 : ∀ (g : gRow) (x : Int32), upd g 7 x 7 = x := fun g x => upd_s
                have en : ¬ nI 900 ≤ kRes (nI 0) := by decide
                have el : mCnt (upd (upd (mLp (mBg vI (nI (4 + yy % 13))) (nI (2 + yy / 16 % 7)) 0) 2 (nI (2 + yy / 16 % 7))) 7 (nI (4 + yy / 128 % 13))) 0 0 < nI (4 + yy / 128 % 13) := (nI_gt0 (by omega)).mpr (by omega)
                unfold mRf
                rw [e7, if_neg (fun e => e rfl), if_neg en, if_pos el]
              obtain ⟨rfl, rfl, rfl⟩ : ae = nI 0 ∧ wt = mEn (upd (upd (mLp (mBg vI (nI (4 + yy % 13))) (nI (2 + yy / 16 % 7)) 0) 2 (nI (2 + yy / 16 % 7))) 7 (nI (4 + yy / 128 % 13))) 0 (nI 0) (nI 900) (nI 0) ∧ ct = 0 + 1 := by
                rcases hcs with ⟨e1, e2, e3, e4⟩ | ⟨e1, e2, e3, e4, e5⟩ | ⟨e1, e2, e3, e4, e5⟩
                · omega
                · rw [er] at e2; exact absurd e2 (by decide)
                · exact ⟨e3, e4, e5⟩
              have q5 := (QQ_0 (v := upd (upd (mLp (mBg vI (nI (4 + yy % 13))) (nI (2 + yy / 16 % 7)) 0) 2 (nI (2 + yy / 16 % 7))) 7 (nI (4 + yy / 128 % 13))) ⟨rfl, rfl, rfl, rfl, rfl⟩).en (x := nI 0) (fu := nI 900) (y := nI 0)
              refine gx_callV1 hC dL_law_102 (k5) kY_X6_enter kV_X6_enter ml_L_72 (by exact h.gs.at0) rfl (by decide) rfl rfl rfl (by first | exact Nat.le_of_ble_eq_true rfl | (simp [Value.category, isR_cat kv_isR, isR_cat aref_isR]; done)) (Nat.le_refl _) (Nat.le_refl _) ?_
              refine gx_if_ne (tgt := 119) hC dL_law_105 (by decide) (fun c_105 => ?_) (fun c_105 => ?_)
              · first | exact absurd (by rfl) c_105 | exact absurd c_105 (by rfl)
              · refine gx_aload_n (i := 1) hC dL_law_108 rfl rfl (by first | exact Or.inr ⟨_, rfl⟩ | exact Or.inl rfl) ?_
                refine gx_callS1 hC dL_law_109 (u_sound _ _ h5 q5 (by decide)) kY_L_sound kS_L_sound ml_L_100 (by decide) rfl rfl rfl (by first | exact Nat.le_of_ble_eq_true rfl | (simp [Value.category, isR_cat kv_isR, isR_cat aref_isR]; done)) (Nat.le_refl _) (Nat.le_refl _) ?_
                refine gx_if_eq (tgt := 119) hC dL_law_112 (by decide) (fun c_112 => ?_) (fun c_112 => ?_)
                · first | exact absurd (by decide) c_112 | exact absurd c_112 (by decide)
                · refine gx_iconst (v := nI 1) hC dL_law_115 ic_1n ?_
                  refine gx_goto (tgt := 120) hC dL_law_116 (by decide) ?_
                  refine gx_istore (i := 4) (L' := [_, _, _, _, _, _, _, _, _, _, _, _, _]) hC dL_law_120 (Nat.le_of_ble_eq_true rfl) rfl (fun u h9 => by first | exact Or.inl rfl | (cases h9; done) | (right; cases h9; first | rfl | exact isR_cat aref_isR | exact isR_cat kv_isR)) ?_
                  refine gx_iconst (v := nI 0) hC dL_law_122 ic_0n ?_
                  refine gx_istore (i := 5) (L' := [_, _, _, _, _, _, _, _, _, _, _, _, _]) hC dL_law_123 (Nat.le_of_ble_eq_true rfl) rfl (fun u h9 => by first | exact Or.inl rfl | (cases h9; done) | (right; cases h9; first | rfl | exact isR_cat aref_isR | exact isR_cat kv_isR)) ?_
                  exact law_loop hC hX hbl hbz hLs hend 17 0 _ _ _ _ _ _ _ (by decide) (by decide) h5 q5 (by decide) (by decide) (fun u e => by cases e)
