/-! what the two makings leave -/
abbrev R0 : hRef := fun _ _ => 0
abbrev MI : hMem := mM1 (hM4 D0)
abbrev RI : hRef := mR1 (hR4 R0)
theorem frs_0 : Frs 1 D0 R0 := fun i _ k => ⟨rfl, rfl⟩
set_option maxRecDepth 20000 in
theorem gs_1 : hSt 226 RI 1 := by unfold hSt hAt; decide +kernel
set_option maxRecDepth 20000 in
theorem gs_24 : hSt 226 RI 24 := by unfold hSt hAt; decide +kernel
set_option maxRecDepth 20000 in
theorem gs_49 : hSt 226 RI 49 := by unfold hSt hAt; decide +kernel
set_option maxRecDepth 20000 in
theorem gs_72 : hSt 226 RI 72 := by unfold hSt hAt; decide +kernel
set_option maxRecDepth 20000 in
theorem gs_95 : hSt 226 RI 95 := by unfold hSt hAt; decide +kernel
set_option maxRecDepth 20000 in
theorem gs_118 : hSt 226 RI 118 := by unfold hSt hAt; decide +kernel
set_option maxRecDepth 20000 in
theorem gs_141 : hSt 226 RI 141 := by unfold hSt hAt; decide +kernel
set_option maxRecDepth 20000 in
theorem gs_167 : hSt 226 RI 167 := by unfold hSt hAt; decide +kernel
set_option maxRecDepth 20000 in
theorem gs_190 : hSt 226 RI 190 := by unfold hSt hAt; decide +kernel
theorem hBas.cs {b : Nat} (h : hBas b) : b = 49 ∨ b = 72 ∨ b = 95 ∨ b = 118 ∨ b = 141 := by
  obtain ⟨i, hi, rfl⟩ := h
  omega
set_option maxRecDepth 20000 in
theorem gs_48 : ∀ j, j < 5 → RI 48 j = 49 + 23 * j := by decide +kernel
set_option maxRecDepth 20000 in
theorem gs_i : GS 226 RI := by
  refine ⟨by decide, ⟨gs_1, gs_24, fun b hb => ?_, gs_167, gs_190⟩, by decide +kernel, by decide +kernel, fun j hj => ⟨j, hj, gs_48 j hj⟩, fun i j hi hj e => ?_⟩
  · rcases hb.cs with rfl | rfl | rfl | rfl | rfl
    · exact gs_49
    · exact gs_72
    · exact gs_95
    · exact gs_118
    · exact gs_141
  · rw [gs_48 i hi, gs_48 j hj] at e; omega
set_option maxRecDepth 20000 in
theorem gm_i : gMd 226 RI := by unfold gMd; decide +kernel
set_option maxRecDepth 20000 in
theorem kn_24 : KN (getS MI 24) := by unfold KN hk; decide +kernel
set_option maxRecDepth 20000 in
theorem kn_49 : KN (getS MI 49) := by unfold KN hk; decide +kernel
set_option maxRecDepth 20000 in
theorem kn_72 : KN (getS MI 72) := by unfold KN hk; decide +kernel
set_option maxRecDepth 20000 in
theorem kn_95 : KN (getS MI 95) := by unfold KN hk; decide +kernel
set_option maxRecDepth 20000 in
theorem kn_118 : KN (getS MI 118) := by unfold KN hk; decide +kernel
set_option maxRecDepth 20000 in
theorem kn_141 : KN (getS MI 141) := by unfold KN hk; decide +kernel
set_option maxRecDepth 20000 in
theorem kn_167 : KN (getS MI 167) := by unfold KN hk; decide +kernel
set_option maxRecDepth 20000 in
theorem kn_190 : KN (getS MI 190) := by unfold KN hk; decide +kernel
theorem knb_i : KNb MI := by
  intro b hb
  rcases hb with rfl | hb | rfl | rfl
  · exact kn_24
  · rcases hb.cs with rfl | rfl | rfl | rfl | rfl
    · exact kn_49
    · exact kn_72
    · exact kn_95
    · exact kn_118
    · exact kn_141
  · exact kn_167
  · exact kn_190
set_option maxRecDepth 20000 in
theorem cr_i : CR MI := by
  intro x hx
  rcases hx with rfl | rfl | rfl <;> decide +kernel
set_option maxRecDepth 20000 in
theorem kn_1 : KN (getS MI 1) := by unfold KN hk; decide +kernel
set_option maxRecDepth 20000 in
theorem sc_i : ∀ k, k < 16 → 4 ≤ k → getS MI 1 0 k = MI 216 (rs k) := by decide +kernel
set_option maxRecDepth 20000 in
theorem ho_i : ∀ i, i < 16 → getS MI 1 2 i = -6 := by decide +kernel
set_option maxRecDepth 20000 in
theorem rl_i : Rel (getS MI 1) (MI 216) 10 0 := by
  refine ⟨⟨⟨⟨by decide +kernel, by decide⟩, ⟨by decide +kernel, by decide⟩, fun j hj => absurd hj (Nat.not_lt_zero _)⟩, by decide, ⟨4, by decide, by decide, by decide +kernel⟩, by decide +kernel, by decide +kernel, ⟨0, by decide, by decide +kernel⟩, fun j hj => absurd hj (Nat.not_lt_zero _)⟩,
    ⟨⟨by decide +kernel, by decide⟩, ⟨by decide +kernel, by decide⟩, kn_1⟩, fun k h4 h5 => sc_i k (by omega) h4, fun j hj => absurd hj (Nat.not_lt_zero _), fun i hi => (ho_i i hi).trans rfl⟩
set_option maxRecDepth 20000 in
theorem sl_i : SLt MI := fun x hx => Or.inl (by
  rcases (show x = 0 ∨ x = 1 by omega) with rfl | rfl <;> decide +kernel)
theorem d_214 {k : Nat} : D0 214 k = 0 := rfl
theorem d_221 {k : Nat} : D0 221 k = 0 := rfl
theorem m_214 : MI 214 = fun _ => 0 := funext fun k => by
  have h : hM4 D0 214 k = D0 214 k := (up2_off (fun e => absurd e.1 (by decide))).trans ((Frs_4 frs_0) 214 (by decide) k).1
  have h2 : MI 214 k = hM4 D0 214 k := by
    show mM1 (hM4 D0) 214 k = _
    unfold mM1
    repeat rw [up2_off (fun e => absurd e.1 (by decide))]
  rw [h2, h]
  rfl
theorem m_221 : MI 221 = fun _ => 0 := funext fun k => by
  have h : hM4 D0 221 k = D0 221 k := ((Frs_5 frs_0) 221 (by decide) k).1
  have h2 : MI 221 k = hM4 D0 221 k := by
    show mM1 (hM4 D0) 221 k = _
    unfold mM1
    repeat rw [up2_off (fun e => absurd e.1 (by decide))]
  rw [h2, h]
  rfl
set_option maxRecDepth 20000 in
theorem inv_i : Inv MI RI 10 0 0 0 :=
  ⟨⟨gs_i, gm_i⟩, cr_i, rl_i, knb_i, ⟨by decide, by decide +kernel, by decide +kernel, fun k hk => absurd hk (Nat.not_lt_zero _)⟩, sl_i, ⟨⟨by decide, fun p hp => absurd hp (Nat.not_lt_zero _)⟩, by decide +kernel, by decide +kernel, m_221.trans m_214.symm⟩⟩
