/-! calls of both worlds: the text, and strips carried out -/
theorem nI_any (x : Int32) : ∃ p, x = nI p := ⟨x.toBitVec.toNat, ((Int32.ofNat_bitVecToNat x.toBitVec).trans (Int32.ofBitVec_toBitVec x)).symm⟩
section TXT
variable {l : Launch} {z : hZt} {M : hMem} {R : hRef} {lv c q L : Nat} {y6 y7 : hYd} {As : List Value} {a : Int32}
theorem Inv.text (h : Inv M R lv c q L) {N : hMem} {L2 : Nat} (e : ∀ a k, a ≠ 213 → a ≠ 214 → a ≠ 221 → (a = 215 → k ≠ 7) → N a k = M a k) (ht : TX N L2) : Inv N R lv c q L2 := by
  have eR : ∀ a, a ≠ 213 → a ≠ 214 → a ≠ 221 → a ≠ 215 → N a = M a := fun a h1 h2 h3 h4 => funext fun k => e a k h1 h2 h3 (fun x => absurd x h4)
  have eB : ∀ b, b + 23 ≤ 213 → getS N b = getS M b := fun b hb => getS_eq (fun i k hi => e _ _ (by omega) (by omega) (by omega) (by omega))
  refine ⟨h.1, ?_, ?_, ?_, ⟨h.q5, ?_, ?_, fun k hk => ?_⟩, fun x hx => ?_, ht⟩
  · intro x hx
    rw [eR 223 (by decide) (by decide) (by decide) (by decide), eR 224 (by decide) (by decide) (by decide) (by decide), eR 225 (by decide) (by decide) (by decide) (by decide)]
    exact h.cr x hx
  · rw [eB 1 (by decide), eR 216 (by decide) (by decide) (by decide) (by decide)]; exact h.rl
  · intro b hb
    have h2 : b + 23 ≤ 213 := by
      rcases hb with hb | hb | hb | hb
      · omega
      · have := hb.ge; omega
      · omega
      · omega
    rw [eB b h2]; exact h.kn b hb
  · rw [eR 47 (by decide) (by decide) (by decide) (by decide)]; exact h.qc
  · rw [e 215 2 (by decide) (by decide) (by decide) (by decide)]; exact h.qm
  · have hq5 := h.q5
    have := (h.gs.bs (show k < 5 by omega)).ge
    rw [eB _ (by omega), eR 217 (by decide) (by decide) (by decide) (by decide)]
    exact h.hi.2.2.2 k hk
  · rw [eR 166 (by decide) (by decide) (by decide) (by decide), eR 220 (by decide) (by decide) (by decide) (by decide), eR 219 (by decide) (by decide) (by decide) (by decide), eB _ (by omega)]
    exact h.sl x hx
theorem s_append (h : Inv M R lv c q L) (x : Int32) : Cll l z M R m_X6_append m_X7_append [.int x] := by
  obtain ⟨t1, t2, t3, t4⟩ := h.tx
  have hL := t1.1
  rcases bIn_or (x := x) (a := 32) (b := 126) with e | ⟨h1, h2⟩
  · exact ⟨-2, M, M, R, lv, c, q, L, c0_X6_append l z h.gs e, c0_X7_append l z h.gm (bIn_f e), h⟩
  · have hb := bIn_t h1 h2
    obtain ⟨i, i4, i16, rfl⟩ := rng h1 h2 (a := 32) (b := 126) (by decide) (by decide)
    by_cases d : L < 80
    · have k := c_X6_append l z h.gs t2 d i4 i16
      have e15 : aM M L (nI i) 215 7 = nI L := by
        unfold aM
        rw [up2_off (fun e => absurd e.1 (by decide)), up2_off (fun e => absurd e.1 (by decide))]; exact t3
      have m := c_X7_append l z h.gm (M := aM M L (nI i)) hb e15 d
      have e14 : ∀ p, up2 (up2 (aM M L (nI i)) 221 L (nI i)) 215 7 (nI (L + 1)) 214 p = if p = L then nI i else M 214 p := fun p => by
        rw [up2_off (fun e => absurd e.1 (by decide)), up2_off (fun e => absurd e.1 (by decide))]
        unfold aM
        rw [up2_off (fun e => absurd e.1 (by decide))]
        by_cases ep : p = L
        · subst ep; rw [up2_same, if_pos rfl]
        · rw [up2_off (fun e => ep e.2), if_neg ep]
      have e21 : ∀ p, up2 (up2 (aM M L (nI i)) 221 L (nI i)) 215 7 (nI (L + 1)) 221 p = if p = L then nI i else M 214 p := fun p => by
        rw [up2_off (fun e => absurd e.1 (by decide))]
        by_cases ep : p = L
        · subst ep; rw [up2_same, if_pos rfl]
        · rw [up2_off (fun e => ep e.2), if_neg ep]
          unfold aM
          rw [up2_off (fun e => absurd e.1 (by decide)), up2_off (fun e => absurd e.1 (by decide)), t4]
      refine ⟨_, _, _, R, lv, c, q, L + 1, k, m, h.text (fun a k n1 n2 n3 n4 => ?_) ⟨⟨by omega, fun p hp => ?_⟩, ?_, up2_same, ?_⟩⟩
      · rw [up2_off (fun e => n4 e.1 e.2), up2_off (fun e => n3 e.1)]
        unfold aM
        rw [up2_off (fun e => n1 e.1), up2_off (fun e => n2 e.1)]
      · rw [e14]
        by_cases ep : p = L
        · rw [if_pos ep]; exact ⟨i, i4, i16, rfl⟩
        · rw [if_neg ep]; exact t1.2 p (by omega)
      · rw [up2_off (fun e => absurd e.1 (by decide)), up2_off (fun e => absurd e.1 (by decide))]
        exact up2_same
      · funext p; rw [e21, e14]
    · have e80 : L = 80 := by omega
      subst e80
      have n80 : nI 80 = 80 := by decide
      exact ⟨-4, M, M, R, lv, c, q, 80, c1_X6_append l z h.gs t2 i4 i16, c1_X7_append l z h.gm hb (t3.trans n80), h⟩
theorem s_clearText (h : Inv M R lv c q L) : Cll l z M R m_X6_clearText m_X7_clearText [] := by
  obtain ⟨t1, t2, t3, t4⟩ := h.tx
  have k := c_X6_clearText l z h.gs (M := M)
  have m := c_X7_clearText l z h.gm (M := up2 M 213 1 0)
  have e15 : up2 M 213 1 0 215 7 = M 213 1 := by rw [up2_off (fun e => absurd e.1 (by decide)), t3, t2]
  rw [e15] at m
  have e14 : up2 (up2 M 213 1 0) 215 7 0 214 = M 214 := funext fun p => by rw [up2_off (fun e => absurd e.1 (by decide)), up2_off (fun e => absurd e.1 (by decide))]
  have e21 : up2 (up2 M 213 1 0) 215 7 0 221 = M 221 := funext fun p => by rw [up2_off (fun e => absurd e.1 (by decide)), up2_off (fun e => absurd e.1 (by decide))]
  refine ⟨_, _, _, R, lv, c, q, 0, k, m, h.text (fun a k n1 n2 n3 n4 => ?_) ⟨⟨by omega, fun p hp => absurd hp (Nat.not_lt_zero _)⟩, ?_, ?_, ?_⟩⟩
  · rw [up2_off (fun e => n4 e.1 e.2), up2_off (fun e => n1 e.1)]
  · rw [up2_off (fun e => absurd e.1 (by decide)), up2_same, nI_0]
  · rw [up2_same, nI_0]
  · rw [e14, e21]; exact t4
/-- the reader's row of the class, and what the model told itself -/
theorem Inv.read (h : Inv M R lv c q L) {t1 : Nat → Int32} {p1 : Nat} : Inv (pMm (putRow M 213 (sFF (M 214) (M 213))) t1 p1) R lv c q L := by
  refine h.same (fun a k hf => ?_) ?_ ?_ ?_
  · rw [pMm_o hf.2.2.2.2.1 (fun e => by have := hf.2.2.2.2.2 e.1; omega), pRo hf.2.1]
  · rw [pMm_o (by decide) (fun e => absurd e.1 (by decide)), pRs, sFF_1]
  · have e : getS (pMm (putRow M 213 (sFF (M 214) (M 213))) t1 p1) 24 = getS M 24 := getS_eq (fun i k hi => by rw [pMm_o (by omega) (by omega), pRo (by omega)])
    rw [e]; exact h.a24
  · have e : getS (pMm (putRow M 213 (sFF (M 214) (M 213))) t1 p1) 1 = getS M 1 := getS_eq (fun i k hi => by rw [pMm_o (by omega) (by omega), pRo (by omega)])
    have e2 : pMm (putRow M 213 (sFF (M 214) (M 213))) t1 p1 216 = M 216 := funext fun k => by rw [pMm_o (by decide) (fun e => absurd e.1 (by decide)), pRo (by decide)]
    rw [e, e2]; exact h.rl
theorem s_faultPosition (h : Inv M R lv c q L) : Cll l z M R m_X6_faultPosition m_X7_faultPosition [] := by
  obtain ⟨t1, t2, t3, t4⟩ := h.tx
  have k := c_X6_faultPosition l z h.gs (M := M)
  obtain ⟨p0, hp0⟩ := nI_any (putRow M 213 (sFF (M 214) (M 213)) 215 8)
  have e21 : putRow M 213 (sFF (M 214) (M 213)) 221 = M 214 := (funext fun k => pRo (by decide)).trans t4
  have m := c_X7_faultPosition l z h.gm (M := putRow M 213 (sFF (M 214) (M 213))) (t0 := putRow M 213 (sFF (M 214) (M 213)) 222) (p0 := p0) e21 ((pRo (by decide)).trans t3) t1.1
  rw [pMm_self hp0, ← sFF_ok t1 t2] at m
  exact ⟨_, _, _, R, lv, c, q, L, k, m, h.read⟩
theorem pM_row {s : Nat → Int32} (h : Inv M R lv c q L) : pM (putRow M 213 s) R q c = putRow (pM M R q c) 213 s := by
  have hb := (pB_bas h.gs q).ge
  have e1 : getS (putRow M 213 s) (pB R q) = getS M (pB R q) := getS_eq (fun i k hi => pRo (by omega))
  have e2 : getS (putRow M 213 s) 1 = getS M 1 := getS_eq (fun i k hi => pRo (by omega))
  funext a k
  by_cases x3 : a = 213
  · subst x3
    rw [pM_n h.gs (by decide), pRs, pRs]
  · rw [pRo x3]
    unfold pM
    rw [e1, e2]
    by_cases x1 : a = 47 ∧ k = 1
    · obtain ⟨rfl, rfl⟩ := x1
      rw [up2_same, up2_same]
    · rw [up2_off x1, up2_off x1]
      by_cases x2 : pB R q ≤ a ∧ a < pB R q + 23
      · unfold putS
        rw [if_pos x2, if_pos x2]
      · rw [pSo (by omega), pSo (by omega), pRo x3]
theorem s_run (h : Inv M R lv c q L) : Cll l z M R m_X6_run m_X7_run [] := by
  obtain ⟨t1, t2, t3, t4⟩ := h.tx
  have hL := t1.1
  have hf := sFF_ok t1 t2
  by_cases d : (mTx (M 214) L 81 0).1 = true
  · rw [if_pos d] at hf
    have k := c_X6_run l z h.gs h.rl.sw h.qc h.q5 hf
    have hX : ruM M R q c = putRow (pM M R q c) 213 (sRes (sFF (M 214) (M 213))) := by
      unfold ruM
      rw [pM_row h, row_is, putRow_put]
    rw [hX] at k
    have g1 : getS (putRow (pM M R q c) 213 (sRes (sFF (M 214) (M 213)))) 1 = getS M 1 := by rw [getS_row, pM_now h.gs]
    have e13 : putRow (pM M R q c) 213 (sRes (sFF (M 214) (M 213))) 213 = sRes (sFF (M 214) (M 213)) := row_is
    have e14 : putRow (pM M R q c) 213 (sRes (sFF (M 214) (M 213))) 214 = M 214 := funext fun k => (pRo (by decide)).trans (pM_n h.gs (by decide))
    have hok : pOk (sRes (sFF (M 214) (M 213))) L 0 := sRes_ok (sFF_1.trans t2)
    have rr := ruS_ok t1 80 0 0 (putRow (pM M R q c) 213 (sRes (sFF (M 214) (M 213)))) (M 216) (mTT (M 214) L 81 ((ruS lv 80 0 (putRow (pM M R q c) 213 (sRes (sFF (M 214) (M 213)))) c).2 222) 0) c (by rw [g1]; exact h.rl) (by rw [e13]; exact hok) (Nat.zero_le _) (by omega) e14 d
    rw [show 80 + 1 = 81 from rfl] at rr
    obtain ⟨r1, r2, r3, r4⟩ := rr
    rw [r1] at k
    generalize ruS lv 80 0 (putRow (pM M R q c) 213 (sRes (sFF (M 214) (M 213)))) c = G at *
    obtain ⟨G1, M1⟩ := G
    dsimp only at *
    have eM : ∀ a k, 24 ≤ a → a ≠ 213 → M1 a k = pM M R q c a k := fun a k h1 h2 => (r4 a k (Or.inr h1) h2).trans (pRo h2)
    have eHi : ∀ a k, 164 ≤ a → a ≠ 213 → M1 a k = M a k := fun a k h1 h2 => (eM a k (by omega) h2).trans (pM_n h.gs h1)
    have e16 : M1 216 = M 216 := funext fun k => eHi 216 k (by decide) (by decide)
    have e21 : M1 221 = M 214 := (funext fun k => eHi 221 k (by decide) (by decide)).trans t4
    have cr : CR M1 := h.cr.of (fun i k hi => eHi i k (by omega) (by omega))
    obtain ⟨p0, hp0⟩ := nI_any (M1 215 8)
    have m := c_X7_run l z (h.gm.pRx (q := q)) (M := M1) e21 ((eHi 215 7 (by decide) (by decide)).trans t3) hL h.rl.wv.mw cr h.l1 h.q5 ((eHi 215 2 (by decide) (by decide)).trans h.qm) (t0 := M1 222) (p0 := p0) d
    have es : putRow (pMm M1 (M1 222) p0) 216 (M 216) = M1 := by rw [pMm_self hp0, ← e16]; exact putRow_self
    rw [es] at m
    generalize mRu (M 214) L lv 81 0 (mTT (M 214) L 81 (M1 222) 0) (M 216) c 0 = w at *
    have I1 := h.rec eM (r3.trans t2.symm) r2
    refine ⟨_, _, _, _, lv, w.2.2.1, min q 4 + 1, L, k, m, I1.same (lv2 := lv) (c2 := w.2.2.1) (fun a k hf => ?_) ?_ ?_ ?_⟩
    · rw [pRo hf.2.2.1, pRo hf.2.2.1, pMm_o hf.2.2.2.2.1 (fun e => by have := hf.2.2.2.2.2 e.1; omega)]
    · rw [pRo (by decide), pRo (by decide), pMm_o (by decide) (fun e => absurd e.1 (by decide))]
    · have e := I1.a24
      rw [row_24] at e ⊢
      rw [getS_eq (M := mRc M1 (M 216) q) (fun i k hi => pMm_o (by omega) (by omega))]
      exact e
    · have e := I1.rl
      rw [row_1, row_is] at e ⊢
      rw [getS_eq (M := mRc M1 (M 216) q) (fun i k hi => pMm_o (by omega) (by omega))]
      exact e
  · rw [if_neg d] at hf
    have hp := mTx_p (s := M 214) (L := L) (f := 81) (p := 0) (Nat.zero_le _)
    have n6 : ¬ sFF (M 214) (M 213) 3 = -6 := by rw [hf]; exact nI_n6 (by omega)
    have k := c0_X6_run l z h.gs n6
    obtain ⟨p0, hp0⟩ := nI_any (putRow M 213 (sFF (M 214) (M 213)) 215 8)
    have e21 : putRow M 213 (sFF (M 214) (M 213)) 221 = M 214 := (funext fun k => pRo (by decide)).trans t4
    have e16 : putRow M 213 (sFF (M 214) (M 213)) 216 = M 216 := funext fun k => pRo (by decide)
    have m := c0_X7_run l z h.gm (M := putRow M 213 (sFF (M 214) (M 213))) (v := M 216) (t0 := putRow M 213 (sFF (M 214) (M 213)) 222) (p0 := p0) e21 ((pRo (by decide)).trans t3) t1.1 ((Bool.not_eq_true _).mp d)
    have es : ∀ t p, putRow (pMm (putRow M 213 (sFF (M 214) (M 213))) t p) 216 (M 216) = pMm (putRow M 213 (sFF (M 214) (M 213))) t p := fun t p => by
      have e : pMm (putRow M 213 (sFF (M 214) (M 213))) t p 216 = M 216 := funext fun k => by rw [pMm_o (by decide) (fun e => absurd e.1 (by decide)), pRo (by decide)]
      rw [← e]
      exact putRow_self
    rw [es, es, pMm_self hp0] at m
    exact ⟨_, _, _, R, lv, c, q, L, k, m, h.read⟩
end TXT
