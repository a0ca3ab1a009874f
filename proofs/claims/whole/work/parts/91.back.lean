/-! calls of both worlds: undo, keep, restore, checksum -/
theorem g0b {M : hMem} {b k : Nat} : M b k = getS M b 0 k := getS_0.symm
section BACK
variable {l : Launch} {z : hZt} {M : hMem} {R : hRef} {lv c q L : Nat} {y6 y7 : hYd} {As : List Value} {a : Int32}
theorem Inv.less (h : Inv M R lv c q L) {p : Nat} (hp : p ≤ q) : Inv (up2 (up2 M 47 1 (nI p)) 215 2 (nI p)) R lv c p L := by
  have hq5 := h.q5
  have eR : ∀ a, a ≠ 47 → a ≠ 215 → up2 (up2 M 47 1 (nI p)) 215 2 (nI p) a = M a := fun a h1 h2 => funext fun k => by rw [up2_off (fun e => h2 e.1), up2_off (fun e => h1 e.1)]
  have eB : ∀ b, (b = 1 ∨ b = 24 ∨ hBas b ∨ b = 167 ∨ b = 190) → getS (up2 (up2 M 47 1 (nI p)) 215 2 (nI p)) b = getS M b := fun b hb => by
    have h2 : (1 ≤ b ∧ b + 23 ≤ 47) ∨ (48 ≤ b ∧ b + 23 ≤ 215) := by
      rcases hb with hb | hb | hb | hb | hb
      · omega
      · omega
      · have := hb.ge; omega
      · omega
      · omega
    exact getS_eq (fun i k hi => by rw [eR _ (by omega) (by omega)])
  refine ⟨h.1, ?_, ?_, ?_, ⟨by omega, ?_, up2_same, fun k hk => ?_⟩, fun x hx => ?_, ⟨?_, ?_, ?_, ?_⟩⟩
  · intro x hx
    rw [eR 223 (by decide) (by decide), eR 224 (by decide) (by decide), eR 225 (by decide) (by decide)]
    exact h.cr x hx
  · rw [eB 1 (Or.inl rfl), eR 216 (by decide) (by decide)]; exact h.rl
  · intro b hb
    rw [eB b (Or.inr hb)]; exact h.kn b hb
  · rw [up2_off (fun e => absurd e.1 (by decide))]; exact up2_same
  · rw [eB _ (Or.inr (Or.inr (Or.inl (h.gs.bs (show k < 5 by omega))))), eR 217 (by decide) (by decide)]
    exact h.hi.2.2.2 k (by omega)
  · rw [eR 166 (by decide) (by decide), eR 220 (by decide) (by decide), eR 219 (by decide) (by decide), eB (167 + 23 * x) (Or.inr (Or.inr (Or.inr (by omega))))]
    exact h.sl x hx
  · rw [eR 214 (by decide) (by decide)]; exact h.tx.1
  · rw [eR 213 (by decide) (by decide)]; exact h.tx.2.1
  · rw [up2_off (fun e => absurd e.2 (by decide)), up2_off (fun e => absurd e.1 (by decide))]; exact h.tx.2.2.1
  · rw [eR 214 (by decide) (by decide), eR 221 (by decide) (by decide)]; exact h.tx.2.2.2
theorem cpy_in {v r : Nat → Int32} {i : Nat} (hi : i < 154) : cpy v 0 r 154 i = r i := by
  unfold cpy
  rw [if_pos (by omega), Nat.sub_zero]
theorem s_undo (h : Inv M R lv c q L) : Cll l z M R m_X6_undo m_X7_undo [] := by
  have hq5 := h.q5
  by_cases d : q = 0
  · subst d
    exact Cll.idle h (c0_X6_undo l z h.gs (h.qc.trans nI_0)) (c0_X7_undo l z h.gm (h.qm.trans nI_0))
  · obtain ⟨p, rfl⟩ : ∃ p, q = p + 1 := ⟨q - 1, by omega⟩
    obtain ⟨lv2, c2, hr⟩ := h.hi.2.2.2 p (by omega)
    have hc2 : Cnt M (R 48 (p + 1 - 1)) c2 := ⟨by rw [Nat.add_sub_cancel, g0b (M := M)]; exact hr.sw.ct, hr.sw.c20⟩
    have k := c_X6_undo l z h.gs h.qc (by omega) hq5 hc2
    have e : oM M R (p + 1) c2 = putS (up2 M 47 1 (nI p)) 1 (sCopy (getS M 1) (getS M (R 48 p)) c2) := rfl
    rw [e, Nat.add_sub_cancel] at k
    have eo : ∀ a k, 24 ≤ a → ¬ (a = 47 ∧ k = 1) → putS (up2 M 47 1 (nI p)) 1 (sCopy (getS M 1) (getS M (R 48 p)) c2) a k = M a k := fun a k h1 h2 => by rw [pSo (by omega), up2_off h2]
    have e16 : putS (up2 M 47 1 (nI p)) 1 (sCopy (getS M 1) (getS M (R 48 p)) c2) 216 = M 216 := funext fun k => eo 216 k (by decide) (by omega)
    have e17 : putS (up2 M 47 1 (nI p)) 1 (sCopy (getS M 1) (getS M (R 48 p)) c2) 217 = M 217 := funext fun k => eo 217 k (by decide) (by omega)
    have m := c_X7_undo l z h.gm (M := putS (up2 M 47 1 (nI p)) 1 (sCopy (getS M 1) (getS M (R 48 p)) c2)) (v := M 216) (q := p) hq5 ((eo 215 2 (by decide) (by omega)).trans h.qm)
    have es : putRow (putS (up2 M 47 1 (nI p)) 1 (sCopy (getS M 1) (getS M (R 48 p)) c2)) 216 (M 216) = putS (up2 M 47 1 (nI p)) 1 (sCopy (getS M 1) (getS M (R 48 p)) c2) := by rw [← e16]; exact putRow_self
    rw [es, e17] at m
    refine ⟨_, _, _, R, lv2, c2, p, L, k, m, (h.less (show p ≤ p + 1 by omega)).same (fun a k hf => ?_) ?_ ?_ ?_⟩
    · rw [pRo hf.2.2.1]
      unfold up2
      by_cases x1 : a = 215 ∧ k = 2
      · rw [if_pos x1, if_pos x1]
      · rw [if_neg x1, if_neg x1]
        have h1 := hf.1
        rw [pSo (by omega)]
    · rw [pRo (by decide), up2_off (fun e => absurd e.1 (by decide)), eo _ _ (by decide) (by omega), up2_off (fun e => absurd e.1 (by decide)), up2_off (fun e => absurd e.1 (by decide))]
    · rw [row_24, getS_up (Or.inr (by decide)), getS_put (Or.inr (by decide)), getS_up (Or.inr (by decide))]
      exact h.a24
    · rw [row_1, row_is, getS_up (Or.inr (by decide))]
      exact ((hr.copy h.rl.sw.kn).put).eqv (fun i hi => cpy_in hi)
theorem bSl_is {x : Int32} : bSl x = bIn x 0 1 := by
  have e : (0 ≤ x ∧ x < nI 2) ↔ (0 ≤ x ∧ x ≤ 1) := by
    have e2 : (nI 2).toInt = 2 := nI_toInt (by decide)
    have e1 : (1 : Int32).toInt = 1 := by decide
    rw [Int32.lt_iff_toInt_lt, Int32.le_iff_toInt_le (x := x) (y := 1)]
    exact ⟨fun q => ⟨q.1, by omega⟩, fun q => ⟨q.1, by omega⟩⟩
  unfold bSl bIn
  exact decide_eq_decide.mpr e
theorem slB_n {i : Nat} (hi : i < 2) : slB (nI i) = 167 + 23 * i := by unfold slB; rw [nI_clamp (by omega)]
theorem s_keep (h : Inv M R lv c q L) (x : Int32) : Cll l z M R m_X6_keep m_X7_keep [.int x] := by
  have hq5 := h.q5
  by_cases d : bIn x 0 1 = true
  · obtain ⟨i, -, i1, rfl⟩ := bIn_rng d (a := 0) (b := 1) (by decide) (by decide)
    have hi2 : i < 2 := by omega
    have k := c_X6_keep l z h.gs (c := c) ⟨c1_of h.rl.sw, h.rl.sw.c20⟩ (x := nI i) (by rw [bSl_is]; exact d)
    have e9 : M 1 9 = M 216 0 := (g0 (M := M)).trans (h.rl.sc (k := 9) (by decide) (by decide))
    have ek : kM M (nI i) c = up2 (putS M (167 + 23 * i) (sCopy (getS M (167 + 23 * i)) (getS M 1) c)) 166 i 1 := by
      unfold kM
      rw [slB_n hi2, nI_clamp (by omega)]
    rw [e9, ek] at k
    generalize hM1 : up2 (putS M (167 + 23 * i) (sCopy (getS M (167 + 23 * i)) (getS M 1) c)) 166 i 1 = M1 at k
    have eo : ∀ a k, (a < 167 + 23 * i ∨ 167 + 23 * i + 23 ≤ a) → ¬ (a = 166 ∧ k = i) → M1 a k = M a k := fun a k h1 h2 => by rw [← hM1, up2_off h2, pSo h1]
    have eb : ∀ j k, j < 23 → M1 (167 + 23 * i + j) k = sCopy (getS M (167 + 23 * i)) (getS M 1) c j k := fun j k hj => by rw [← hM1, up2_off (by omega), pSj hj]
    have ef : M1 166 i = 1 := by rw [← hM1]; exact up2_same
    have eR : ∀ a, (a < 166 ∨ 213 ≤ a) → M1 a = M a := fun a ha => funext fun k => eo a k (by omega) (by omega)
    have m := c_X7_keep l z h.gm (M := M1) (v := M 216) hi2 d
    have es : putRow M1 216 (M 216) = M1 := by rw [← eR 216 (Or.inr (by decide))]; exact putRow_self
    rw [es, eR 219 (Or.inr (by decide))] at m
    generalize hM2 : putRow (up2 (putRow M1 219 (cpy (M 219) (154 * i) (M 216) 154)) 220 i 1) 216 (M 216) = M2 at m
    have o2 : ∀ a k, a ≠ 216 → a ≠ 219 → ¬ (a = 220 ∧ k = i) → M2 a k = M1 a k := fun a k h1 h2 h3 => by rw [← hM2, pRo h1, up2_off h3, pRo h2]
    have f20 : M2 220 i = 1 := by rw [← hM2, pRo (by decide)]; exact up2_same
    have r19 : M2 219 = cpy (M 219) (154 * i) (M 216) 154 := funext fun k => by rw [← hM2, pRo (by decide), up2_off (fun e => absurd e.1 (by decide)), pRs]
    have r16 : M2 216 = M 216 := by rw [← hM2]; exact row_is
    have b2 : ∀ b, b + 23 ≤ 213 → getS M2 b = getS M1 b := fun b hb => getS_eq (fun j k hj => o2 _ _ (by omega) (by omega) (by omega))
    have b1 : ∀ b, (b + 23 ≤ 166 ∨ (167 ≤ b ∧ (b + 23 ≤ 167 + 23 * i ∨ 167 + 23 * i + 23 ≤ b))) → getS M1 b = getS M b := fun b hb => getS_eq (fun j k hj => eo _ _ (by omega) (by omega))
    have R2 : ∀ a, (a < 166 ∨ 213 ≤ a) → a ≠ 216 → a ≠ 219 → a ≠ 220 → M2 a = M a := fun a ha h1 h2 h3 => (funext fun k => o2 a k h1 h2 (fun e => h3 e.1)).trans (eR a ha)
    have hb167 : 167 + 23 * i = 167 ∨ 167 + 23 * i = 190 := by omega
    have kk := h.kn (167 + 23 * i) (Or.inr (Or.inr hb167))
    refine ⟨_, _, _, R, lv, c, q, L, k, m, h.1, ?_, ?_, ?_, ⟨h.q5, ?_, ?_, fun k hk => ?_⟩, fun y hy => ?_, ⟨?_, ?_, ?_, ?_⟩⟩
    · intro x hx
      rw [R2 223 (Or.inr (by decide)) (by decide) (by decide) (by decide), R2 224 (Or.inr (by decide)) (by decide) (by decide) (by decide), R2 225 (Or.inr (by decide)) (by decide) (by decide) (by decide)]
      exact h.cr x hx
    · rw [b2 1 (by decide), b1 1 (Or.inl (by decide)), r16]; exact h.rl
    · intro b hb
      have hb2 : b + 23 ≤ 213 := by
        rcases hb with hb | hb | hb | hb
        · omega
        · have := hb.ge; omega
        · omega
        · omega
      rw [b2 b hb2]
      by_cases e : b = 167 + 23 * i
      · subst e
        exact ((SWcopy kk h.rl.sw).kn).eq23 (fun j k hj => by rw [getS_at hj, eb j k hj])
      · rw [b1 b (by
          rcases hb with hb | hb | hb | hb
          · omega
          · have := hb.ge; omega
          · omega
          · omega)]
        exact h.kn b hb
    · rw [R2 47 (Or.inl (by decide)) (by decide) (by decide) (by decide)]; exact h.qc
    · rw [R2 215 (Or.inr (by decide)) (by decide) (by decide) (by decide)]; exact h.qm
    · have hbs := (h.gs.bs (show k < 5 by omega)).ge
      rw [b2 _ (by omega), b1 _ (Or.inl (by omega)), R2 217 (Or.inr (by decide)) (by decide) (by decide) (by decide)]
      exact h.hi.2.2.2 k hk
    · by_cases e : y = i
      · subst e
        right
        have n1 : ¬ (1 : Int32) = 0 := by decide
        refine ⟨?_, ?_, lv, c, ?_⟩
        · rw [o2 166 y (by decide) (by decide) (by omega), ef]; exact n1
        · rw [f20]; exact n1
        · rw [b2 _ (by omega), r19]
          refine ((h.rl.copy kk).eq23 (fun j k hj => by rw [getS_at hj, eb j k hj])).eqv (fun j hj => ?_)
          unfold cpy
          rw [if_pos (by omega), show 154 * y + j - 154 * y = j by omega]
      · have e6 : M2 166 y = M 166 y := (o2 166 y (by decide) (by decide) (by omega)).trans (eo 166 y (by omega) (fun q => e q.2))
        have e0 : M2 220 y = M 220 y := (o2 220 y (by decide) (by decide) (fun q => e q.2)).trans (eo 220 y (by omega) (by omega))
        rw [e6, e0, b2 (167 + 23 * y) (by omega), b1 (167 + 23 * y) (Or.inr ⟨by omega, by omega⟩), r19]
        rcases h.sl y hy with hs | ⟨s1, s2, lv3, c3, s3⟩
        · exact Or.inl hs
        · refine Or.inr ⟨s1, s2, lv3, c3, s3.eqv (fun j hj => ?_)⟩
          unfold cpy
          rw [if_neg (by omega)]
    · rw [R2 214 (Or.inr (by decide)) (by decide) (by decide) (by decide)]; exact h.tx.1
    · rw [R2 213 (Or.inr (by decide)) (by decide) (by decide) (by decide)]; exact h.tx.2.1
    · rw [R2 215 (Or.inr (by decide)) (by decide) (by decide) (by decide)]; exact h.tx.2.2.1
    · rw [R2 214 (Or.inr (by decide)) (by decide) (by decide) (by decide), R2 221 (Or.inr (by decide)) (by decide) (by decide) (by decide)]; exact h.tx.2.2.2
  · have d2 := (Bool.not_eq_true _).mp d
    exact Cll.idle h (c0_X6_keep l z h.gs (by rw [bSl_is]; exact d2)) (c0_X7_keep l z h.gm d2)
theorem s_restore (h : Inv M R lv c q L) (x : Int32) : Cll l z M R m_X6_restore m_X7_restore [.int x] := by
  have hq5 := h.q5
  by_cases d : bIn x 0 1 = true
  · obtain ⟨i, -, i1, rfl⟩ := bIn_rng d (a := 0) (b := 1) (by decide) (by decide)
    have hi2 : i < 2 := by omega
    have ds : bSl (nI i) = true := by rw [bSl_is]; exact d
    rcases h.sl i hi2 with ⟨s1, s2⟩ | ⟨s1, s2, lv2, c2, hr⟩
    · exact Cll.idle h (c1_X6_restore l z h.gs ds (by rw [nI_clamp (by omega)]; exact s1)) (c1_X7_restore l z h.gm hi2 d s2)
    · have hc2 : Cnt M (slB (nI i)) c2 := ⟨by rw [slB_n hi2, g0b (M := M)]; exact hr.sw.ct, hr.sw.c20⟩
      have k := c_X6_restore l z h.gs h.rl.sw h.qc h.q5 ds (by rw [nI_clamp (by omega)]; exact s1) hc2
      have ev : vM M R q c c2 (nI i) = putS (pM M R q c) 1 (sCopy (getS M 1) (getS M (167 + 23 * i)) c2) := by unfold vM; rw [slB_n hi2]
      have ea : M (slB (nI i)) 9 = cpy (M 216) 0 (fun k => M 219 (154 * i + k)) 154 0 := by
        rw [cpy_in (by decide), slB_n hi2, g0b (M := M)]
        exact hr.sc (k := 9) (by decide) (by decide)
      rw [ev, ea] at k
      refine Cll.note h eSx (w := cpy (M 216) 0 (fun k => M 219 (154 * i + k)) 154) (((hr.copy h.rl.sw.kn).put).eqv (fun j hj => cpy_in hj)) k (fun gM _ hq => ?_)
      have eo : ∀ a, 164 ≤ a → putS (pM M R q c) 1 (sCopy (getS M 1) (getS M (167 + 23 * i)) c2) a = M a := fun a ha => funext fun k => by rw [pSo (by omega), pM_n h.gs ha]
      have m := c_X7_restore l z gM (M := putS (pM M R q c) 1 (sCopy (getS M 1) (getS M (167 + 23 * i)) c2)) (v := M 216) h.q5 hq hi2 d (by rw [eo 220 (by decide)]; exact s2)
      rw [eo 219 (by decide)] at m
      exact m
  · have d2 := (Bool.not_eq_true _).mp d
    exact Cll.idle h (c0_X6_restore l z h.gs (by rw [bSl_is]; exact d2)) (c0_X7_restore l z h.gm d2)
theorem s_checksum (h : Inv M R lv c q L) : ∃ (a : Int64) (M1 M2 : hMem), hCt l z m_X6_checksum [.ref (z.1 + 0)] 226 M R 226 (some (.long a)) M1 R ∧ hCt l z m_X7_checksum [.ref (z.1 + 215)] 226 M1 R 226 (some (.long a)) M2 R ∧ Inv M2 R lv c q L := by
  have k := c_X6_checksum l z h.gs h.rl.sw h.a24
  rw [h.rl.ck h.a24 h.qc] at k
  have m := c_X7_checksum l z h.gm (M := putS M 24 (fcS lv c 600 (aC M c))) h.rl.wv.mw (f24_cr h.cr) h.l1 (q := q) ((pSo (by omega)).trans h.qm)
  have es : putRow (putS M 24 (fcS lv c 600 (aC M c))) 216 (M 216) = putS M 24 (fcS lv c 600 (aC M c)) := by rw [← f24_row (M := M) (g := fcS lv c 600 (aC M c))]; exact putRow_self
  rw [es] at m
  exact ⟨_, _, _, k, m, h.fore (KN_fc h) (fun a k h8 h15 => mCM_k h8 h15 c)⟩
end BACK
