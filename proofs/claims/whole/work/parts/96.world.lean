/-! the law, from its entry -/
theorem hcl_at {k : Nat} {q : vw_C} (h : hcl[k]? = some q) : k < 7 := by
  by_cases e : k < 7
  · exact e
  · rw [List.getElem?_eq_none (by show 7 ≤ k; omega)] at h; cases h
set_option maxHeartbeats 4000000 in
set_option maxRecDepth 100000 in
/-- what the tables and the start give: the classes, the arrays' classes, the kinds -/
theorem law_world {s : State} {b : Nat} (hts : ∀ w ∈ lw_tbl, w.before #[Value.ref b] s = true) (hgv : (Jvm.Cond.and given_1 narrow_1).before #[Value.ref b] s = true) :
    ∃ (ek : Nat → Nat) (G : va_G) (ac : Nat → ClassId), Fx (s.heap.size, ek, G, ac) s s.heap := by
  have hh : ∀ w ∈ hgd, w.before #[Value.ref b] s = true := fun w hw => hts w (List.mem_filter.mp hw).1
  have hs := flat_of_before _ hgv
  obtain ⟨c0, i0, k0⟩ := u_known hh lays_X0 (hh (.instantiable RX0 8) (by decide +kernel))
  obtain ⟨c1, i1, k1⟩ := u_known hh lays_X1 (hh (.instantiable RX1 2) (by decide +kernel))
  obtain ⟨c2, i2, k2⟩ := u_known hh lays_X3 (hh (.instantiable RX3 2) (by decide +kernel))
  obtain ⟨c3, i3, k3⟩ := u_known hh lays_X4 (hh (.instantiable RX4 16) (by decide +kernel))
  obtain ⟨c4, i4, k4⟩ := u_known hh lays_X5 (hh (.instantiable RX5 8) (by decide +kernel))
  obtain ⟨c5, i5, k5⟩ := u_known hh lays_X6 (hh (.instantiable RX6 5) (by decide +kernel))
  obtain ⟨c6, i6, k6⟩ := u_known hh lays_X7 (hh (.instantiable RX7 15) (by decide +kernel))
  obtain ⟨dC, dI, hKc⟩ : ∃ (dC : Nat → ClassId) (dI : Nat → Nat → Nat), ∀ (k : Nat) (q : vw_C), hcl[k]? = some q → u_Kn s q.1 q.2.1 q.2.2 (dC k) (dI k) := by
    refine ⟨fun k => if k = 0 then c0 else if k = 1 then c1 else if k = 2 then c2 else if k = 3 then c3 else if k = 4 then c4 else if k = 5 then c5 else c6, fun k => if k = 0 then i0 else if k = 1 then i1 else if k = 2 then i2 else if k = 3 then i3 else if k = 4 then i4 else if k = 5 then i5 else i6, ?_⟩
    intro k q hq
    match k, hq with
    | 0, hq => cases hq; exact k0
    | 1, hq => cases hq; exact k1
    | 2, hq => cases hq; exact k2
    | 3, hq => cases hq; exact k3
    | 4, hq => cases hq; exact k4
    | 5, hq => cases hq; exact k5
    | 6, hq => cases hq; exact k6
    | k + 7, hq => exact absurd (hcl_at hq) (by omega)
  obtain ⟨a1, ka1, p1, f1, g1, t1⟩ := Cond.arrayClass_spec (hh _ ac_int)
  obtain ⟨a2, ka2, p2, f2, g2, t2⟩ := Cond.arrayClass_spec (hh _ ac_boolean)
  obtain ⟨a3, ka3, p3, f3, g3, t3⟩ := Cond.arrayClass_spec (hh _ ac_char)
  have o4 : va_AO RX0 s := va_AO.of (hts (.arrayOver (.object RX0)) (by decide +kernel))
  have o5 : va_AO RX4 s := va_AO.of (hts (.arrayOver (.object RX4)) (by decide +kernel))
  obtain ⟨p4, a4, ka4, n4, -, g4, t4, f4⟩ := Cond.arrayOver_spec o4
  obtain ⟨p5, a5, ka5, n5, -, g5, t5, f5⟩ := Cond.arrayOver_spec o5
  have hA : ∀ a : Nat, a < s.heap.size → ¬ (fun q : Nat => s.heap.size ≤ q) a := fun a h => Nat.not_le.mpr h
  obtain ⟨ek, hE⟩ : ∃ ek : Nat → Nat, va_En "HoldingStack$Kind" "LHoldingStack$Kind;" kNm kFd ek (fun q : Nat => s.heap.size ≤ q) s s.heap := by
    refine va_Enof (args := #[Value.ref b]) (fun i hi => ?_) (hts (.initialized "HoldingStack$Kind") (by decide +kernel)) (fun i hi => ?_) (fun q hq i hi => ?_) (fun i j hi hj hij => ?_) hA
    · rcases (show i = 0 ∨ i = 1 ∨ i = 2 by have : i < 3 := hi; omega) with rfl | rfl | rfl
      · exact hts (.laysStatic "HoldingStack$Kind" "LIGHT" "LHoldingStack$Kind;") (by decide +kernel)
      · exact hts (.laysStatic "HoldingStack$Kind" "MEDIUM" "LHoldingStack$Kind;") (by decide +kernel)
      · exact hts (.laysStatic "HoldingStack$Kind" "HEAVY" "LHoldingStack$Kind;") (by decide +kernel)
    · rcases (show i = 0 ∨ i = 1 ∨ i = 2 by have : i < 3 := hi; omega) with rfl | rfl | rfl
      · exact hs (.exactly (.static "HoldingStack$Kind" "LIGHT" "LHoldingStack$Kind;") "HoldingStack$Kind") (by decide +kernel)
      · exact hs (.exactly (.static "HoldingStack$Kind" "MEDIUM" "LHoldingStack$Kind;") "HoldingStack$Kind") (by decide +kernel)
      · exact hs (.exactly (.static "HoldingStack$Kind" "HEAVY" "LHoldingStack$Kind;") "HoldingStack$Kind") (by decide +kernel)
    · have hq4 : q = ("HoldingStack$Kind", "number", "I", [0, 1, 2]) ∨ q = ("HoldingStack$Kind", "rate", "I", [4, 9, 18]) ∨ q = ("HoldingStack$Kind", "reserve", "I", [40, 100, 220]) ∨ q = ("HoldingStack$Kind", "wake", "I", [2, 3, 4]) := by
        simpa [kFd] using hq
      rcases (show i = 0 ∨ i = 1 ∨ i = 2 by have : i < 3 := hi; omega) with rfl | rfl | rfl
      · rcases hq4 with rfl | rfl | rfl | rfl
        · exact hs (.eq (.field (.static "HoldingStack$Kind" "LIGHT" "LHoldingStack$Kind;") "HoldingStack$Kind" "number" "I") (.int 0)) (by decide +kernel)
        · exact hs (.eq (.field (.static "HoldingStack$Kind" "LIGHT" "LHoldingStack$Kind;") "HoldingStack$Kind" "rate" "I") (.int 4)) (by decide +kernel)
        · exact hs (.eq (.field (.static "HoldingStack$Kind" "LIGHT" "LHoldingStack$Kind;") "HoldingStack$Kind" "reserve" "I") (.int 40)) (by decide +kernel)
        · exact hs (.eq (.field (.static "HoldingStack$Kind" "LIGHT" "LHoldingStack$Kind;") "HoldingStack$Kind" "wake" "I") (.int 2)) (by decide +kernel)
      · rcases hq4 with rfl | rfl | rfl | rfl
        · exact hs (.eq (.field (.static "HoldingStack$Kind" "MEDIUM" "LHoldingStack$Kind;") "HoldingStack$Kind" "number" "I") (.int 1)) (by decide +kernel)
        · exact hs (.eq (.field (.static "HoldingStack$Kind" "MEDIUM" "LHoldingStack$Kind;") "HoldingStack$Kind" "rate" "I") (.int 9)) (by decide +kernel)
        · exact hs (.eq (.field (.static "HoldingStack$Kind" "MEDIUM" "LHoldingStack$Kind;") "HoldingStack$Kind" "reserve" "I") (.int 100)) (by decide +kernel)
        · exact hs (.eq (.field (.static "HoldingStack$Kind" "MEDIUM" "LHoldingStack$Kind;") "HoldingStack$Kind" "wake" "I") (.int 3)) (by decide +kernel)
      · rcases hq4 with rfl | rfl | rfl | rfl
        · exact hs (.eq (.field (.static "HoldingStack$Kind" "HEAVY" "LHoldingStack$Kind;") "HoldingStack$Kind" "number" "I") (.int 2)) (by decide +kernel)
        · exact hs (.eq (.field (.static "HoldingStack$Kind" "HEAVY" "LHoldingStack$Kind;") "HoldingStack$Kind" "rate" "I") (.int 18)) (by decide +kernel)
        · exact hs (.eq (.field (.static "HoldingStack$Kind" "HEAVY" "LHoldingStack$Kind;") "HoldingStack$Kind" "reserve" "I") (.int 220)) (by decide +kernel)
        · exact hs (.eq (.field (.static "HoldingStack$Kind" "HEAVY" "LHoldingStack$Kind;") "HoldingStack$Kind" "wake" "I") (.int 4)) (by decide +kernel)
    · have ne01 : (Cond.not (.eq (.static "HoldingStack$Kind" "LIGHT" "LHoldingStack$Kind;") (.static "HoldingStack$Kind" "MEDIUM" "LHoldingStack$Kind;"))).before #[Value.ref b] s = true := hs _ (by decide +kernel)
      have ne02 : (Cond.not (.eq (.static "HoldingStack$Kind" "LIGHT" "LHoldingStack$Kind;") (.static "HoldingStack$Kind" "HEAVY" "LHoldingStack$Kind;"))).before #[Value.ref b] s = true := hs _ (by decide +kernel)
      have ne12 : (Cond.not (.eq (.static "HoldingStack$Kind" "MEDIUM" "LHoldingStack$Kind;") (.static "HoldingStack$Kind" "HEAVY" "LHoldingStack$Kind;"))).before #[Value.ref b] s = true := hs _ (by decide +kernel)
      rcases (show i = 0 ∨ i = 1 ∨ i = 2 by have : i < 3 := hi; omega) with rfl | rfl | rfl
      · rcases (show j = 1 ∨ j = 2 by have : j < 3 := hj; omega) with rfl | rfl
        · exact Or.inl ne01
        · exact Or.inl ne02
      · rcases (show j = 0 ∨ j = 2 by have : j < 3 := hj; omega) with rfl | rfl
        · exact Or.inr ne01
        · exact Or.inl ne12
      · rcases (show j = 0 ∨ j = 1 by have : j < 3 := hj; omega) with rfl | rfl
        · exact Or.inr ne02
        · exact Or.inr ne12
  refine ⟨ek, (dC, dI), fun t => if t = 1 then a1 else if t = 2 then a2 else if t = 3 then a3 else if t = 4 then a4 else a5, ⟨hKc, fun k q h => ?_⟩, hE, va_Nw.of rfl (hts (.methodLinkNest RX6 35 yX5_init RX6) (by decide +kernel)), o4, o5⟩
  match k, h with
  | 0, h => cases h; exact ⟨fun n z => ⟨fun k h => (by cases h), ka1, g1, p1, t1⟩, f1⟩
  | 1, h => cases h; exact ⟨fun n z => ⟨fun k h => (by cases h), ka2, g2, p2, t2⟩, f2⟩
  | 2, h => cases h; exact ⟨fun n z => ⟨fun k h => (by cases h), ka3, g3, p3, t3⟩, f3⟩
  | 3, h => cases h; exact ⟨fun n z => ⟨fun k h => (by cases h), ka4, g4, p4, t4⟩, ka4, p4, g4, t4, n4, f4⟩
  | 4, h => cases h; exact ⟨fun n z => ⟨fun k h => (by cases h), ka5, g5, p5, t5⟩, ka5, p5, g5, t5, n5, f5⟩
  | k + 5, h => simp at h
