/-! what the making leaves -/
abbrev R0 : hRef := fun _ _ => 0
abbrev MI : hMem := hM4 D0
abbrev RI : hRef := hR4 R0
theorem frs_0 : Frs 1 D0 R0 := fun i _ k => ⟨rfl, rfl⟩
set_option maxRecDepth 20000 in
theorem gs_1 : hSt 215 RI 1 := by unfold hSt hAt; decide +kernel
set_option maxRecDepth 20000 in
theorem gs_24 : hSt 215 RI 24 := by unfold hSt hAt; decide +kernel
set_option maxRecDepth 20000 in
theorem gs_49 : hSt 215 RI 49 := by unfold hSt hAt; decide +kernel
set_option maxRecDepth 20000 in
theorem gs_72 : hSt 215 RI 72 := by unfold hSt hAt; decide +kernel
set_option maxRecDepth 20000 in
theorem gs_95 : hSt 215 RI 95 := by unfold hSt hAt; decide +kernel
set_option maxRecDepth 20000 in
theorem gs_118 : hSt 215 RI 118 := by unfold hSt hAt; decide +kernel
set_option maxRecDepth 20000 in
theorem gs_141 : hSt 215 RI 141 := by unfold hSt hAt; decide +kernel
set_option maxRecDepth 20000 in
theorem gs_167 : hSt 215 RI 167 := by unfold hSt hAt; decide +kernel
set_option maxRecDepth 20000 in
theorem gs_190 : hSt 215 RI 190 := by unfold hSt hAt; decide +kernel
theorem hBas.cs {b : Nat} (h : hBas b) : b = 49 ∨ b = 72 ∨ b = 95 ∨ b = 118 ∨ b = 141 := by
  obtain ⟨i, hi, rfl⟩ := h
  omega
set_option maxRecDepth 20000 in
theorem gs_48 : ∀ j, j < 5 → RI 48 j = 49 + 23 * j := by decide +kernel
set_option maxRecDepth 20000 in
theorem gs_i : GS 215 RI := by
  refine ⟨by decide, ⟨gs_1, gs_24, fun b hb => ?_, gs_167, gs_190⟩, by decide +kernel, by decide +kernel, fun j hj => ⟨j, hj, gs_48 j hj⟩, fun i j hi hj e => ?_⟩
  · rcases hb.cs with rfl | rfl | rfl | rfl | rfl
    · exact gs_49
    · exact gs_72
    · exact gs_95
    · exact gs_118
    · exact gs_141
  · rw [gs_48 i hi, gs_48 j hj] at e; omega
set_option maxRecDepth 20000 in
theorem kn_24 : KN (getS MI 24) := by unfold KN hk; decide +kernel
set_option maxRecDepth 20000 in
theorem kn_49 : KN (getS MI 49) := by unfold KN hk; decide +kernel
set_option maxRecDepth 20000 in
theorem kn_72 : KN (getS MI 72) := by unfold KN hk; decide +kernel
set_option maxRecDepth 20000 in
theorem kn_95 : KN (getS MI 95) := by unfold KN hk; decide +kernel
set_option maxRecDepth 20000 in
theorem kn_118 : KN (getS MI 118) := by unfold KN hk; decide +kernel
set_option maxRecDepth 20000 in
theorem kn_141 : KN (getS MI 141) := by unfold KN hk; decide +kernel
set_option maxRecDepth 20000 in
theorem kn_167 : KN (getS MI 167) := by unfold KN hk; decide +kernel
set_option maxRecDepth 20000 in
theorem kn_190 : KN (getS MI 190) := by unfold KN hk; decide +kernel
theorem knb_i : KNb MI := by
  intro b hb
  rcases hb with rfl | hb | rfl | rfl
  · exact kn_24
  · rcases hb.cs with rfl | rfl | rfl | rfl | rfl
    · exact kn_49
    · exact kn_72
    · exact kn_95
    · exact kn_118
    · exact kn_141
  · exact kn_167
  · exact kn_190
set_option maxRecDepth 20000 in
theorem kn_1 : KN (getS MI 1) := by unfold KN hk; decide +kernel
/-- the row of a new stack -/
def vI : gRow := fun i => if i = 1 then 10 else if i = 2 then 4 else if i = 5 ∨ i = 6 then 1 else if i = 7 then 16 else 0
set_option maxRecDepth 20000 in
theorem sc_i : ∀ k, k < 16 → 4 ≤ k → getS MI 1 0 k = vI (rs k) := by decide +kernel
set_option maxRecDepth 20000 in
theorem ho_i : ∀ i, i < 16 → getS MI 1 2 i = -6 := by decide +kernel
set_option maxRecDepth 20000 in
theorem rl_i : Rel (getS MI 1) vI 10 0 := by
  refine ⟨⟨⟨⟨by decide +kernel, by decide⟩, ⟨by decide +kernel, by decide⟩, fun j hj => absurd hj (Nat.not_lt_zero _)⟩, by decide, ⟨4, by decide, by decide, by decide +kernel⟩, by decide +kernel, by decide +kernel, ⟨0, by decide, by decide +kernel⟩, fun j hj => absurd hj (Nat.not_lt_zero _)⟩,
    ⟨⟨by decide +kernel, by decide⟩, ⟨by decide +kernel, by decide⟩, kn_1⟩, fun k h4 h5 => sc_i k (by omega) h4, fun j hj => absurd hj (Nat.not_lt_zero _), fun i hi => (ho_i i hi).trans rfl⟩
set_option maxRecDepth 20000 in
theorem q_i : MI 47 1 = nI 0 := by decide +kernel
set_option maxRecDepth 20000 in
theorem sl_i : ∀ x, x < 2 → MI 166 x = 0 := by decide +kernel
theorem pi_i : PI MI RI vI 10 0 0 (fun _ _ => 0) (fun _ => none) :=
  ⟨gs_i, rl_i, knb_i, ⟨by decide, q_i, fun k hk => absurd hk (Nat.not_lt_zero _)⟩, fun x hx => Or.inl ⟨rfl, sl_i x hx⟩⟩
/-! a number of the script -/
set_option maxHeartbeats 4000000 in
theorem u_cell (l : Launch) (z : hZt) {n b Ls k : Nat} {M : hMem} {R : hRef} {xs : Nat → Int32} (hk : k < 2 ^ 31) (hL : Ls < 2 ^ 31) : hCs l z m_L_cell [.ref b, .int (nI k)] n M R (some (.int (cV xs Ls k))) b Ls xs := by
  refine hs_startS [some (.ref b), some (.int (nI k))] (by decide +kernel) rfl (by intro u hu; simp at hu; rcases hu with rfl | rfl <;> rfl) (Nat.le_of_ble_eq_true rfl) (fun X hlX hX hbl hbz hC hQ => ?_)
  dsimp only at hC hQ
  refine gx_iload_n (i := 1) hC dL_cell_0 rfl rfl ?_
  refine gx_aload_n (i := 0) hC dL_cell_1 rfl rfl (Or.inr ⟨_, rfl⟩) ?_
  refine gx_slen hC hX hbl hbz dL_cell_2 ?_
  refine gx_icmp_ge (tgt := 12) hC dL_cell_3 (by decide) (fun c3 => ?_) (fun c3 => ?_)
  · have d3 := cle hL hk c3
    refine gx_ldc hC dL_cell_12 kc_L_7 ?_
    refine gx_iload_n (i := 1) hC dL_cell_14 rfl rfl ?_
    refine gx_imul hC dL_cell_15 ?_
    refine gx_bipush (v := 109) hC dL_cell_16 bp_109 ?_
    refine gx_iadd hC dL_cell_18 ?_
    refine gx_ldc hC dL_cell_19 kc_L_8 ?_
    refine gx_iand hC dL_cell_21 ?_
    exact gx_iret hC hQ dL_cell_22 (by unfold cV; rw [if_neg (by omega)]) rfl rfl
  · have d3 := cnle hL hk c3
    refine gx_aload_n (i := 0) hC dL_cell_6 rfl rfl (Or.inr ⟨_, rfl⟩) ?_
    refine gx_iload_n (i := 1) hC dL_cell_7 rfl rfl ?_
    refine gx_sld hC hX hbl hbz d3 hL dL_cell_8 ?_
    refine gx_goto (tgt := 19) hC dL_cell_9 (by decide) ?_
    refine gx_ldc hC dL_cell_19 kc_L_8 ?_
    refine gx_iand hC dL_cell_21 ?_
    exact gx_iret hC hQ dL_cell_22 (by unfold cV; rw [if_pos d3]) rfl rfl
/-! the best level -/
theorem mBe_ok {v : Nat → Int32} {lv c : Nat} {x fu : Int32} : ∀ k j, (mBe v lv c x fu k).1 = some j → mRf v c x fu (nI j) = 0 ∧ 0 ≤ mBm v lv c x fu j
  | 0, j, h => by cases h
  | k + 1, j, h => by
    by_cases e : mRf v c x fu (nI k) = 0 ∧ 0 ≤ mBm v lv c x fu k ∧ ((mBe v lv c x fu k).1 = none ∨ mBm v lv c x fu k < (mBe v lv c x fu k).2)
    · rw [mBe, if_pos e] at h
      cases h
      exact ⟨e.1, e.2.1⟩
    · rw [mBe, if_neg e] at h
      exact mBe_ok k j h
theorem mLx_0 {v : Nat → Int32} {lv f n : Nat} {x : Int32} : mLx v lv 0 f n x = none := by
  cases h : mLx v lv 0 f n x with
  | none => rfl
  | some j => exact absurd (mLx_lt h) (Nat.not_lt_zero _)
/-! THE CLAIM OUT OF ONE WALK OF THE LAW'S BODY. Your part is whole_start (and what it stands on); all else here is the same for every law, but numbers. -/
def R_law : String := "HoldingStackLaw"
def lw_P (b : Addr) (xs : List Int32) (args : Array Value) (s : State) : Prop := args = #[.ref b] ∧ s.IntsAt b xs ∧ xs.length ≤ 260 ∧ (Jvm.Cond.and given_1 narrow_1).before args s = true
def lw_Q (_ : Array Value) (s : State) (o : Outcome) (t : State) : Prop := o = .returned (some (.int 1)) ∧ Framed s o t [] 600000 7302250
def lw_Z (below : List Frame) (a : Array Value) (s : State) : State → Prop := fun t => ∃ o, t.status = .running ∧ Ended t below o ∧ lw_Q a s o t
/-- the law's own end, with 1 on the stack, nothing written that was there before, its room as the claim has it -/
theorem lw_ret {p : Program} {l : Launch} {e : Env} {s : State} {m : MethodId} {below : List Frame} {meth : Method} {c : Code} {b : Nat} (hx : p.tables.exec = Jvm.exec) (hb : c.code = code) (hr : meth.sig.returnType = ret) (hlocks : meth.locks = false) {pc : Nat} {H : Heap} {ls : Array Slot} (hdg : decode code pc = .ok (.ireturn, 1)) : W p l e room_1 s m #[Value.ref b] below meth c H [] 600000 7302250 (lw_Z below #[Value.ref b] s) (F0 m pc ls [.int 1]) := by
  intro T hT X
  obtain ⟨fs, hret, hrun, hended, hW, hframe⟩ := X.leave (v := some (.int 1)) (hlocks := hlocks) (fun h => by rw [hr] at h; cases h)
  have hmeth' : T.vm.method? m = some meth := X.method'
  refine ⟨T.setFrames fs, ?_, .returned (some (.int 1)), hrun, hended, rfl, ⟨_, rfl⟩, hW, hframe⟩
  jvm_step X.here [X.here.top, hx, hb, hdg, hmeth', hr, ret, narrow_b1]
  (try refine ⟨rfl, ?_⟩); (try refine ⟨rfl, ?_⟩)
  first | (intro acts; rw [hret _ acts rfl rfl rfl]) | rw [hret _ _ rfl rfl rfl]
  exact Steps.refl _
/-- what holds at the law's entry: the machine, the code, the tables' words (any of lw_tbl by 'hts w (by decide +kernel)'), the script of L ints xs at the cell b, what the Statement gives of the start (any of its parts by flat_of_before) -/
def lw_At (p : Program) (s : State) (m : MethodId) (meth : Method) (c : Code) (b L : Nat) (xs : Nat → Int32) : Prop :=
  p.tables.exec = Jvm.exec ∧ c.code = code ∧ meth.sig.returnType = ret ∧ c.maxLocals = 13 ∧ s.vm.findClass R_law = some m.cls ∧ (∀ w ∈ lw_tbl, w.before #[Value.ref b] s = true) ∧ va_X b L xs s s.heap ∧ b < s.heap.size ∧ meth.locks = false ∧ (Jvm.Cond.and given_1 narrow_1).before #[Value.ref b] s = true
theorem RL_eq : RL = R_law := rfl
/-! the law, from its entry -/
theorem hcl_at {k : Nat} {q : vw_C} (h : hcl[k]? = some q) : k < 6 := by
  by_cases e : k < 6
  · exact e
  · rw [List.getElem?_eq_none (by show 6 ≤ k; omega)] at h; cases h
set_option maxHeartbeats 4000000 in
set_option maxRecDepth 100000 in
/-- what the tables and the start give: the classes, the arrays' classes, the kinds -/
theorem law_world {s : State} {b : Nat} (hts : ∀ w ∈ lw_tbl, w.before #[Value.ref b] s = true) (hgv : (Jvm.Cond.and given_1 narrow_1).before #[Value.ref b] s = true) :
    ∃ (ek : Nat → Nat) (G : va_G) (ac : Nat → ClassId), Fx (s.heap.size, ek, G, ac) s s.heap := by
  have hh : ∀ w ∈ hgd, w.before #[Value.ref b] s = true := fun w hw => hts w (List.mem_filter.mp hw).1
  have hs := flat_of_before _ hgv
  obtain ⟨c0, i0, k0⟩ := u_known hh lays_X0 (hh (.instantiable RX0 8) (by decide +kernel))
  obtain ⟨c1, i1, k1⟩ := u_known hh lays_X1 (hh (.instantiable RX1 2) (by decide +kernel))
  obtain ⟨c2, i2, k2⟩ := u_known hh lays_X3 (hh (.instantiable RX3 2) (by decide +kernel))
  obtain ⟨c3, i3, k3⟩ := u_known hh lays_X4 (hh (.instantiable RX4 16) (by decide +kernel))
  obtain ⟨c4, i4, k4⟩ := u_known hh lays_X5 (hh (.instantiable RX5 8) (by decide +kernel))
  obtain ⟨c5, i5, k5⟩ := u_known hh lays_X6 (hh (.instantiable RX6 5) (by decide +kernel))
  obtain ⟨dC, dI, hKc⟩ : ∃ (dC : Nat → ClassId) (dI : Nat → Nat → Nat), ∀ (k : Nat) (q : vw_C), hcl[k]? = some q → u_Kn s q.1 q.2.1 q.2.2 (dC k) (dI k) := by
    refine ⟨fun k => if k = 0 then c0 else if k = 1 then c1 else if k = 2 then c2 else if k = 3 then c3 else if k = 4 then c4 else c5, fun k => if k = 0 then i0 else if k = 1 then i1 else if k = 2 then i2 else if k = 3 then i3 else if k = 4 then i4 else i5, ?_⟩
    intro k q hq
    match k, hq with
    | 0, hq => cases hq; exact k0
    | 1, hq => cases hq; exact k1
    | 2, hq => cases hq; exact k2
    | 3, hq => cases hq; exact k3
    | 4, hq => cases hq; exact k4
    | 5, hq => cases hq; exact k5
    | k + 6, hq => exact absurd (hcl_at hq) (by omega)
  obtain ⟨a1, ka1, p1, f1, g1, t1⟩ := Cond.arrayClass_spec (hh _ ac_int)
  obtain ⟨a2, ka2, p2, f2, g2, t2⟩ := Cond.arrayClass_spec (hh _ ac_boolean)
  obtain ⟨a3, ka3, p3, f3, g3, t3⟩ := Cond.arrayClass_spec (hh _ ac_char)
  have o4 : va_AO RX0 s := va_AO.of (hts (.arrayOver (.object RX0)) (by decide +kernel))
  have o5 : va_AO RX4 s := va_AO.of (hts (.arrayOver (.object RX4)) (by decide +kernel))
  obtain ⟨p4, a4, ka4, n4, -, g4, t4, f4⟩ := Cond.arrayOver_spec o4
  obtain ⟨p5, a5, ka5, n5, -, g5, t5, f5⟩ := Cond.arrayOver_spec o5
  have hA : ∀ a : Nat, a < s.heap.size → ¬ (fun q : Nat => s.heap.size ≤ q) a := fun a h => Nat.not_le.mpr h
  obtain ⟨ek, hE⟩ : ∃ ek : Nat → Nat, va_En "HoldingStack$Kind" "LHoldingStack$Kind;" kNm kFd ek (fun q : Nat => s.heap.size ≤ q) s s.heap := by
    refine va_Enof (args := #[Value.ref b]) (fun i hi => ?_) (hts (.initialized "HoldingStack$Kind") (by decide +kernel)) (fun i hi => ?_) (fun q hq i hi => ?_) (fun i j hi hj hij => ?_) hA
    · rcases (show i = 0 ∨ i = 1 ∨ i = 2 by have : i < 3 := hi; omega) with rfl | rfl | rfl
      · exact hts (.laysStatic "HoldingStack$Kind" "LIGHT" "LHoldingStack$Kind;") (by decide +kernel)
      · exact hts (.laysStatic "HoldingStack$Kind" "MEDIUM" "LHoldingStack$Kind;") (by decide +kernel)
      · exact hts (.laysStatic "HoldingStack$Kind" "HEAVY" "LHoldingStack$Kind;") (by decide +kernel)
    · rcases (show i = 0 ∨ i = 1 ∨ i = 2 by have : i < 3 := hi; omega) with rfl | rfl | rfl
      · exact hs (.exactly (.static "HoldingStack$Kind" "LIGHT" "LHoldingStack$Kind;") "HoldingStack$Kind") (by decide +kernel)
      · exact hs (.exactly (.static "HoldingStack$Kind" "MEDIUM" "LHoldingStack$Kind;") "HoldingStack$Kind") (by decide +kernel)
      · exact hs (.exactly (.static "HoldingStack$Kind" "HEAVY" "LHoldingStack$Kind;") "HoldingStack$Kind") (by decide +kernel)
    · have hq4 : q = ("HoldingStack$Kind", "number", "I", [0, 1, 2]) ∨ q = ("HoldingStack$Kind", "rate", "I", [4, 9, 18]) ∨ q = ("HoldingStack$Kind", "reserve", "I", [40, 100, 220]) ∨ q = ("HoldingStack$Kind", "wake", "I", [2, 3, 4]) := by
        simpa [kFd] using hq
      rcases (show i = 0 ∨ i = 1 ∨ i = 2 by have : i < 3 := hi; omega) with rfl | rfl | rfl
      · rcases hq4 with rfl | rfl | rfl | rfl
        · exact hs (.eq (.field (.static "HoldingStack$Kind" "LIGHT" "LHoldingStack$Kind;") "HoldingStack$Kind" "number" "I") (.int 0)) (by decide +kernel)
        · exact hs (.eq (.field (.static "HoldingStack$Kind" "LIGHT" "LHoldingStack$Kind;") "HoldingStack$Kind" "rate" "I") (.int 4)) (by decide +kernel)
        · exact hs (.eq (.field (.static "HoldingStack$Kind" "LIGHT" "LHoldingStack$Kind;") "HoldingStack$Kind" "reserve" "I") (.int 40)) (by decide +kernel)
        · exact hs (.eq (.field (.static "HoldingStack$Kind" "LIGHT" "LHoldingStack$Kind;") "HoldingStack$Kind" "wake" "I") (.int 2)) (by decide +kernel)
      · rcases hq4 with rfl | rfl | rfl | rfl
        · exact hs (.eq (.field (.static "HoldingStack$Kind" "MEDIUM" "LHoldingStack$Kind;") "HoldingStack$Kind" "number" "I") (.int 1)) (by decide +kernel)
        · exact hs (.eq (.field (.static "HoldingStack$Kind" "MEDIUM" "LHoldingStack$Kind;") "HoldingStack$Kind" "rate" "I") (.int 9)) (by decide +kernel)
        · exact hs (.eq (.field (.static "HoldingStack$Kind" "MEDIUM" "LHoldingStack$Kind;") "HoldingStack$Kind" "reserve" "I") (.int 100)) (by decide +kernel)
        · exact hs (.eq (.field (.static "HoldingStack$Kind" "MEDIUM" "LHoldingStack$Kind;") "HoldingStack$Kind" "wake" "I") (.int 3)) (by decide +kernel)
      · rcases hq4 with rfl | rfl | rfl | rfl
        · exact hs (.eq (.field (.static "HoldingStack$Kind" "HEAVY" "LHoldingStack$Kind;") "HoldingStack$Kind" "number" "I") (.int 2)) (by decide +kernel)
        · exact hs (.eq (.field (.static "HoldingStack$Kind" "HEAVY" "LHoldingStack$Kind;") "HoldingStack$Kind" "rate" "I") (.int 18)) (by decide +kernel)
        · exact hs (.eq (.field (.static "HoldingStack$Kind" "HEAVY" "LHoldingStack$Kind;") "HoldingStack$Kind" "reserve" "I") (.int 220)) (by decide +kernel)
        · exact hs (.eq (.field (.static "HoldingStack$Kind" "HEAVY" "LHoldingStack$Kind;") "HoldingStack$Kind" "wake" "I") (.int 4)) (by decide +kernel)
    · have ne01 : (Cond.not (.eq (.static "HoldingStack$Kind" "LIGHT" "LHoldingStack$Kind;") (.static "HoldingStack$Kind" "MEDIUM" "LHoldingStack$Kind;"))).before #[Value.ref b] s = true := hs _ (by decide +kernel)
      have ne02 : (Cond.not (.eq (.static "HoldingStack$Kind" "LIGHT" "LHoldingStack$Kind;") (.static "HoldingStack$Kind" "HEAVY" "LHoldingStack$Kind;"))).before #[Value.ref b] s = true := hs _ (by decide +kernel)
      have ne12 : (Cond.not (.eq (.static "HoldingStack$Kind" "MEDIUM" "LHoldingStack$Kind;") (.static "HoldingStack$Kind" "HEAVY" "LHoldingStack$Kind;"))).before #[Value.ref b] s = true := hs _ (by decide +kernel)
      rcases (show i = 0 ∨ i = 1 ∨ i = 2 by have : i < 3 := hi; omega) with rfl | rfl | rfl
      · rcases (show j = 1 ∨ j = 2 by have : j < 3 := hj; omega) with rfl | rfl
        · exact Or.inl ne01
        · exact Or.inl ne02
      · rcases (show j = 0 ∨ j = 2 by have : j < 3 := hj; omega) with rfl | rfl
        · exact Or.inr ne01
        · exact Or.inl ne12
      · rcases (show j = 0 ∨ j = 1 by have : j < 3 := hj; omega) with rfl | rfl
        · exact Or.inr ne02
        · exact Or.inr ne12
  refine ⟨ek, (dC, dI), fun t => if t = 1 then a1 else if t = 2 then a2 else if t = 3 then a3 else if t = 4 then a4 else a5, ⟨hKc, fun k q h => ?_⟩, hE, va_Nw.of rfl (hts (.methodLinkNest RX6 35 yX5_init RX6) (by decide +kernel)), o4, o5⟩
  match k, h with
  | 0, h => cases h; exact ⟨fun n z => ⟨fun k h => (by cases h), ka1, g1, p1, t1⟩, f1⟩
  | 1, h => cases h; exact ⟨fun n z => ⟨fun k h => (by cases h), ka2, g2, p2, t2⟩, f2⟩
  | 2, h => cases h; exact ⟨fun n z => ⟨fun k h => (by cases h), ka3, g3, p3, t3⟩, f3⟩
  | 3, h => cases h; exact ⟨fun n z => ⟨fun k h => (by cases h), ka4, g4, p4, t4⟩, ka4, p4, g4, t4, n4, f4⟩
  | 4, h => cases h; exact ⟨fun n z => ⟨fun k h => (by cases h), ka5, g5, p5, t5⟩, ka5, p5, g5, t5, n5, f5⟩
  | k + 5, h => simp at h
