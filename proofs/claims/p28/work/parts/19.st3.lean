def sPass (f : hMem) (lv : Nat) : Int32 × hMem := let g := sLand (dv (bf f lv) lv) lv
  (g.1, up2 (gd g.2 (lv - 1)) 0 9 (gd g.2 (lv - 1) 0 9 + 1))
theorem SWpass {f : hMem} {lv c : Nat} (h : SW f lv c) : SW (sPass f lv).2 lv c := (SWgd (SWland (SWdv (SWbf h _) _)) _).up (by omega) (by omega)
set_option maxHeartbeats 4000000 in
set_option maxRecDepth 20000 in
theorem c_X4_passMinute (l : Launch) (z : hZt) {n : Nat} {M : hMem} {R : hRef} {o : Nat} (hS : hSt n R o) {f : hMem} {lv c : Nat} (hW : SW f lv c) : hCt l z m_X4_passMinute [.ref (z.1 + o)] n (putS M o f) R n (some (.int (sPass f lv).1)) (putS M o (sPass f lv).2) R := by
  refine hs_start [some (.ref (z.1 + o)), none] (by decide +kernel) rfl (by intro u hu; simp at hu; subst hu <;> first | rfl | exact isR_cat kv_isR | exact isR_cat aref_isR) (Nat.le_of_ble_eq_true rfl) (Nat.le_refl _) (fun X hlX hN hC hQ => ?_)
  dsimp only at hC hQ
  refine gx_aload_n (i := 0) hC dX4_passMinute_0 rfl rfl (by first | exact Or.inr ⟨_, rfl⟩ | exact Or.inl rfl | exact kv_isR | exact aref_isR) ?_
  refine gx_callV0 hC dX4_passMinute_1 (c_X4_burnAndFly _ _ hS hW) kY_X4_burnAndFly kV_X4_burnAndFly ml_X4_135 (by first | exact hS.at | exact hS.aa | exact hS.ah | exact hS.ac (by assumption) | exact hS.ac (by omega)) rfl (by decide) rfl rfl rfl (by first | exact Nat.le_of_ble_eq_true rfl | (simp [Value.category, isR_cat kv_isR, isR_cat aref_isR]; done)) (Nat.le_refl _) (Nat.le_refl _) ?_
  refine gx_aload_n (i := 0) hC dX4_passMinute_4 rfl rfl (by first | exact Or.inr ⟨_, rfl⟩ | exact Or.inl rfl | exact kv_isR | exact aref_isR) ?_
  refine gx_callV0 hC dX4_passMinute_5 (c_X4_divertStarved _ _ hS (SWbf hW _)) kY_X4_divertStarved kV_X4_divertStarved ml_X4_138 (by first | exact hS.at | exact hS.aa | exact hS.ah | exact hS.ac (by assumption) | exact hS.ac (by omega)) rfl (by decide) rfl rfl rfl (by first | exact Nat.le_of_ble_eq_true rfl | (simp [Value.category, isR_cat kv_isR, isR_cat aref_isR]; done)) (Nat.le_refl _) (Nat.le_refl _) ?_
  refine gx_aload_n (i := 0) hC dX4_passMinute_8 rfl rfl (by first | exact Or.inr ⟨_, rfl⟩ | exact Or.inl rfl | exact kv_isR | exact aref_isR) ?_
  refine gx_callV1 hC dX4_passMinute_9 (c_X4_landOne _ _ hS (SWdv (SWbf hW _) _)) kY_X4_landOne kV_X4_landOne ml_X4_141 (by first | exact hS.at | exact hS.aa | exact hS.ah | exact hS.ac (by assumption) | exact hS.ac (by omega)) rfl (by decide) rfl rfl rfl (by first | exact Nat.le_of_ble_eq_true rfl | (simp [Value.category, isR_cat kv_isR, isR_cat aref_isR]; done)) (Nat.le_refl _) (Nat.le_refl _) ?_
  refine gx_istore_n (i := 1) (L' := [_, _]) hC dX4_passMinute_12 rfl (Nat.le_of_ble_eq_true rfl) rfl (fun u h9 => by first | exact Or.inl rfl | (cases h9; done) | (right; cases h9; first | rfl | exact isR_cat aref_isR | exact isR_cat kv_isR)) ?_
  refine gx_aload_n (i := 0) hC dX4_passMinute_13 rfl rfl (by first | exact Or.inr ⟨_, rfl⟩ | exact Or.inl rfl | exact kv_isR | exact aref_isR) ?_
  refine gx_callV0 hC dX4_passMinute_14 (c_X4_goDownLadder _ _ hS (SWland (SWdv (SWbf hW _) _))) kY_X4_goDownLadder kV_X4_goDownLadder ml_X4_144 (by first | exact hS.at | exact hS.aa | exact hS.ah | exact hS.ac (by assumption) | exact hS.ac (by omega)) rfl (by decide) rfl rfl rfl (by first | exact Nat.le_of_ble_eq_true rfl | (simp [Value.category, isR_cat kv_isR, isR_cat aref_isR]; done)) (Nat.le_refl _) (Nat.le_refl _) ?_
  refine gx_aload_n (i := 0) hC dX4_passMinute_17 rfl rfl (by first | exact Or.inr ⟨_, rfl⟩ | exact Or.inl rfl | exact kv_isR | exact aref_isR) ?_
  refine gx_dup hC dX4_passMinute_18 (by first | rfl | exact isR_cat kv_isR | exact isR_cat aref_isR) ?_
  refine gx_getI hC dX4_passMinute_19 fl_X4_53 (by first | exact hS.at | exact hS.aa | exact hS.ah | exact hS.ac (by assumption) | exact hS.ac (by omega)) (by decide) (pS0) ?_
  refine gx_iconst (v := 1) hC dX4_passMinute_22 ic_1 ?_
  refine gx_iadd hC dX4_passMinute_23 ?_
  refine gx_putI hC dX4_passMinute_24 fl_X4_53 (by first | exact hS.at | exact hS.aa | exact hS.ah | exact hS.ac (by assumption) | exact hS.ac (by omega)) fn_3_9 rfl (up_S0) ?_
  refine gx_iload_n (i := 1) hC dX4_passMinute_27 rfl rfl ?_
  exact gx_iret hC hQ dX4_passMinute_28 (rfl) (rfl) rfl
/-- minutes, one after the other: how many landed, and the state then -/
def sMin (f : hMem) (lv : Nat) : Nat → Int32 × hMem
  | 0 => (0, f)
  | i + 1 => (if (sPass (sMin f lv i).2 lv).1 = -6 then (sMin f lv i).1 else (sMin f lv i).1 + 1, (sPass (sMin f lv i).2 lv).2)
theorem SWmin {f : hMem} {lv c : Nat} (h : SW f lv c) (i : Nat) : SW (sMin f lv i).2 lv c := by
  induction i with
  | zero => exact h
  | succ i ih => exact SWpass ih
theorem sMin_eq {f : hMem} {lv i : Nat} (h : (sPass (sMin f lv i).2 lv).1 = -6) : (sMin f lv (i + 1)).1 = (sMin f lv i).1 := by rw [sMin]; exact if_pos h
theorem sMin_ne {f : hMem} {lv i : Nat} (h : ¬ (sPass (sMin f lv i).2 lv).1 = -6) : (sMin f lv (i + 1)).1 = (sMin f lv i).1 + 1 := by rw [sMin]; exact if_neg h
theorem mcl_t {x : Int32} {i : Nat} (hi : i < 2 ^ 31) (h : x ≤ nI i) : x.toNatClampNeg ≤ i := by
  rw [clamp_eq]
  rw [Int32.le_iff_toInt_le, nI_toInt hi] at h
  omega
theorem mcl_f {x : Int32} {i : Nat} (hi : i < 2 ^ 31) (h : ¬ x ≤ nI i) : i < x.toNatClampNeg := by
  rw [clamp_eq]
  rw [Int32.le_iff_toInt_le, nI_toInt hi] at h
  omega
theorem mcl_lt (x : Int32) : x.toNatClampNeg < 2 ^ 31 := by
  rw [clamp_eq]
  have := Int32.toInt_lt x
  omega
set_option maxHeartbeats 4000000 in
set_option maxRecDepth 20000 in
theorem c_X4_passMinutes (l : Launch) (z : hZt) {n : Nat} {M : hMem} {R : hRef} {o : Nat} (hS : hSt n R o) {f : hMem} {lv c : Nat} (hW : SW f lv c) (x : Int32) : hCt l z m_X4_passMinutes [.ref (z.1 + o), .int x] n (putS M o f) R n (some (.int (sMin f lv x.toNatClampNeg).1)) (putS M o (sMin f lv x.toNatClampNeg).2) R := by
  refine hs_start [some (.ref (z.1 + o)), some (.int x), none, none] (by decide +kernel) rfl (by intro u hu; simp at hu; rcases hu with rfl | rfl <;> first | rfl | exact isR_cat kv_isR | exact isR_cat aref_isR) (Nat.le_of_ble_eq_true rfl) (Nat.le_refl _) (fun X hlX hN hC hQ => ?_)
  dsimp only at hC hQ
  have hm := mcl_lt x
  refine gx_iconst (v := 0) hC dX4_passMinutes_0 ic_0 ?_
  refine gx_istore_n (i := 2) (L' := [_, _, _, _]) hC dX4_passMinutes_1 rfl (Nat.le_of_ble_eq_true rfl) rfl (fun u h9 => by first | exact Or.inl rfl | (cases h9; done) | (right; cases h9; first | rfl | exact isR_cat aref_isR | exact isR_cat kv_isR)) ?_
  refine gx_iconst (v := nI 0) hC dX4_passMinutes_2 ic_0n ?_
  refine gx_istore_n (i := 3) (L' := [_, _, _, _]) hC dX4_passMinutes_3 rfl (Nat.le_of_ble_eq_true rfl) rfl (fun u h9 => by first | exact Or.inl rfl | (cases h9; done) | (right; cases h9; first | rfl | exact isR_cat aref_isR | exact isR_cat kv_isR)) ?_
  have loop_4 : ∀ (k : Nat) (i : Nat), x.toNatClampNeg - i < k → i ≤ x.toNatClampNeg → hG z n X n (putS M o (sMin f lv i).2) R 4 [some (.ref (z.1 + o)), some (.int x), some (.int (sMin f lv i).1), some (.int (nI i))] [] := by
    intro k
    induction k with
    | zero => intros; omega
    | succ k ih =>
      intro i hk1 hi
      refine gx_iload_n (i := 3) hC dX4_passMinutes_4 rfl rfl ?_
      refine gx_iload_n (i := 1) hC dX4_passMinutes_5 rfl rfl ?_
      refine gx_icmp_ge (tgt := 27) hC dX4_passMinutes_6 (by decide) (fun c_6 => ?_) (fun c_6 => ?_)
      · have d_6 := mcl_t (by omega) c_6
        refine gx_iload_n (i := 2) hC dX4_passMinutes_27 rfl rfl ?_
        exact gx_iret hC hQ dX4_passMinutes_28 (by rw [show x.toNatClampNeg = i by omega]) (by rw [show x.toNatClampNeg = i by omega]) rfl
      · have d_6 := mcl_f (by omega) c_6
        refine gx_aload_n (i := 0) hC dX4_passMinutes_9 rfl rfl (by first | exact Or.inr ⟨_, rfl⟩ | exact Or.inl rfl | exact kv_isR | exact aref_isR) ?_
        refine gx_callV1 hC dX4_passMinutes_10 (c_X4_passMinute _ _ hS (SWmin hW i)) kY_X4_passMinute kV_X4_passMinute ml_X4_127 (by first | exact hS.at | exact hS.aa | exact hS.ah | exact hS.ac (by assumption) | exact hS.ac (by omega)) rfl (by decide) rfl rfl rfl (by first | exact Nat.le_of_ble_eq_true rfl | (simp [Value.category, isR_cat kv_isR, isR_cat aref_isR]; done)) (Nat.le_refl _) (Nat.le_refl _) ?_
        refine gx_bipush (v := -6) hC dX4_passMinutes_13 bp_m6 ?_
        refine gx_icmp_eq (tgt := 21) hC dX4_passMinutes_15 (by decide) (fun c_15 => ?_) (fun c_15 => ?_)
        · refine gx_iinc (i := 3) (L' := [_, _, _, _]) hC dX4_passMinutes_21 rfl (ii_1 _) (Nat.le_of_ble_eq_true rfl) rfl (fun u h9 => by first | exact Or.inl rfl | (cases h9; done) | (right; cases h9; first | rfl | exact isR_cat aref_isR | exact isR_cat kv_isR)) ?_
          refine gx_goto (tgt := 4) hC dX4_passMinutes_24 (by decide) ?_
          have h9 := ih (i + 1) (by omega) (by omega)
          rw [sMin_eq c_15] at h9
          exact h9
        · refine gx_iinc (i := 2) (L' := [_, _, _, _]) hC dX4_passMinutes_18 rfl rfl (Nat.le_of_ble_eq_true rfl) rfl (fun u h9 => by first | exact Or.inl rfl | (cases h9; done) | (right; cases h9; first | rfl | exact isR_cat aref_isR | exact isR_cat kv_isR)) ?_
          refine gx_iinc (i := 3) (L' := [_, _, _, _]) hC dX4_passMinutes_21 rfl (ii_1 _) (Nat.le_of_ble_eq_true rfl) rfl (fun u h9 => by first | exact Or.inl rfl | (cases h9; done) | (right; cases h9; first | rfl | exact isR_cat aref_isR | exact isR_cat kv_isR)) ?_
          refine gx_goto (tgt := 4) hC dX4_passMinutes_24 (by decide) ?_
          have h9 := ih (i + 1) (by omega) (by omega)
          rw [sMin_ne c_15] at h9
          exact h9
  exact loop_4 (x.toNatClampNeg + 1) 0 (by omega) (by omega)
/-- minutes until that aircraft lands: in which, if in one of the k next; the state then -/
def sTo (lv c : Nat) (num : Int32) : Nat → Nat → hMem → Int32 × hMem
  | 0, _, f => (-6, f)
  | k + 1, i, f => if bMay f c = true then (if (sPass f lv).1 = num then (nI (i + 1), (sPass f lv).2) else sTo lv c num k (i + 1) (sPass f lv).2) else (-6, f)
theorem cgt {a b : Nat} (ha : a < 2 ^ 31) (hb : b < 2 ^ 31) (h : nI a < nI b) : a < b := (nI_ltI ha hb).mp h
theorem cngt {a b : Nat} (ha : a < 2 ^ 31) (hb : b < 2 ^ 31) (h : ¬ nI a < nI b) : b ≤ a := by have := mt (nI_ltI ha hb).mpr h; omega
set_option maxHeartbeats 4000000 in
set_option maxRecDepth 20000 in
theorem c_X4_minutesToLanding (l : Launch) (z : hZt) {n : Nat} {M : hMem} {R : hRef} {o : Nat} (hS : hSt n R o) {f : hMem} {lv c : Nat} (hW : SW f lv c) (num : Int32) {m : Nat} (hm : m < 1000) : hCt l z m_X4_minutesToLanding [.ref (z.1 + o), .int num, .int (nI m)] n (putS M o f) R n (some (.int (sTo lv c num m 0 f).1)) (putS M o (sTo lv c num m 0 f).2) R := by
  refine hs_start [some (.ref (z.1 + o)), some (.int num), some (.int (nI m)), none] (by decide +kernel) rfl (by intro u hu; simp at hu; rcases hu with rfl | rfl | rfl <;> first | rfl | exact isR_cat kv_isR | exact isR_cat aref_isR) (Nat.le_of_ble_eq_true rfl) (Nat.le_refl _) (fun X hlX hN hC hQ => ?_)
  dsimp only at hC hQ
  refine gx_iconst (v := nI 1) hC dX4_minutesToLanding_0 ic_1n ?_
  refine gx_istore_n (i := 3) (L' := [_, _, _, _]) hC dX4_minutesToLanding_1 rfl (Nat.le_of_ble_eq_true rfl) rfl (fun u h9 => by first | exact Or.inl rfl | (cases h9; done) | (right; cases h9; first | rfl | exact isR_cat aref_isR | exact isR_cat kv_isR)) ?_
  have loop_2 : ∀ (k : Nat) (i : Nat) (g : hMem), m - i < k → i ≤ m → SW g lv c → sTo lv c num (m - i) i g = sTo lv c num m 0 f → hG z n X n (putS M o g) R 2 [some (.ref (z.1 + o)), some (.int num), some (.int (nI m)), some (.int (nI (i + 1)))] [] := by
    intro k
    induction k with
    | zero => intros; omega
    | succ k ih =>
      intro i g hk1 hi hg he
      refine gx_iload_n (i := 3) hC dX4_minutesToLanding_2 rfl rfl ?_
      refine gx_iload_n (i := 2) hC dX4_minutesToLanding_3 rfl rfl ?_
      refine gx_icmp_gt (tgt := 30) hC dX4_minutesToLanding_4 (by decide) (fun c_4 => ?_) (fun c_4 => ?_)
      · have d_4 := cgt (by omega) (by omega) c_4
        refine gx_bipush (v := -6) hC dX4_minutesToLanding_30 bp_m6 ?_
        exact gx_iret hC hQ dX4_minutesToLanding_32 ((by rw [show m - i = 0 by omega, sTo] at he; rw [← he])) ((by rw [show m - i = 0 by omega, sTo] at he; rw [← he])) rfl
      · have d_4 := cngt (by omega) (by omega) c_4
        refine gx_aload_n (i := 0) hC dX4_minutesToLanding_7 rfl rfl (by first | exact Or.inr ⟨_, rfl⟩ | exact Or.inl rfl | exact kv_isR | exact aref_isR) ?_
        refine gx_callV1 hC dX4_minutesToLanding_8 (c_X4_mayLand _ _ hS hg) kY_X4_mayLand kV_X4_mayLand ml_X4_131 (by first | exact hS.at | exact hS.aa | exact hS.ah | exact hS.ac (by assumption) | exact hS.ac (by omega)) rfl (by decide) rfl rfl rfl (by first | exact Nat.le_of_ble_eq_true rfl | (simp [Value.category, isR_cat kv_isR, isR_cat aref_isR]; done)) (Nat.le_refl _) (Nat.le_refl _) ?_
        refine gx_ifb_eq (tgt := 30) hC dX4_minutesToLanding_11 (by decide) (fun c_11 => ?_) (fun c_11 => ?_)
        · refine gx_bipush (v := -6) hC dX4_minutesToLanding_30 bp_m6 ?_
          exact gx_iret hC hQ dX4_minutesToLanding_32 ((by rw [show m - i = (m - i - 1) + 1 by omega, sTo, if_neg (by rw [c_11]; decide)] at he; rw [← he])) ((by rw [show m - i = (m - i - 1) + 1 by omega, sTo, if_neg (by rw [c_11]; decide)] at he; rw [← he])) rfl
        · refine gx_aload_n (i := 0) hC dX4_minutesToLanding_14 rfl rfl (by first | exact Or.inr ⟨_, rfl⟩ | exact Or.inl rfl | exact kv_isR | exact aref_isR) ?_
          refine gx_callV1 hC dX4_minutesToLanding_15 (c_X4_passMinute _ _ hS hg) kY_X4_passMinute kV_X4_passMinute ml_X4_127 (by first | exact hS.at | exact hS.aa | exact hS.ah | exact hS.ac (by assumption) | exact hS.ac (by omega)) rfl (by decide) rfl rfl rfl (by first | exact Nat.le_of_ble_eq_true rfl | (simp [Value.category, isR_cat kv_isR, isR_cat aref_isR]; done)) (Nat.le_refl _) (Nat.le_refl _) ?_
          refine gx_iload_n (i := 1) hC dX4_minutesToLanding_18 rfl rfl ?_
          refine gx_icmp_ne (tgt := 24) hC dX4_minutesToLanding_19 (by decide) (fun c_19 => ?_) (fun c_19 => ?_)
          · refine gx_iinc (i := 3) (L' := [_, _, _, _]) hC dX4_minutesToLanding_24 rfl (ii_1 _) (Nat.le_of_ble_eq_true rfl) rfl (fun u h9 => by first | exact Or.inl rfl | (cases h9; done) | (right; cases h9; first | rfl | exact isR_cat aref_isR | exact isR_cat kv_isR)) ?_
            refine gx_goto (tgt := 2) hC dX4_minutesToLanding_27 (by decide) ?_
            exact ih (i + 1) _ (by omega) (by omega) (SWpass hg) (by rw [← he, show m - i = (m - (i + 1)) + 1 by omega, sTo, if_pos c_11, if_neg c_19])
          · refine gx_iload_n (i := 3) hC dX4_minutesToLanding_22 rfl rfl ?_
            exact gx_iret hC hQ dX4_minutesToLanding_23 ((by rw [show m - i = (m - i - 1) + 1 by omega, sTo, if_pos c_11, if_pos c_19] at he; rw [← he])) ((by rw [show m - i = (m - i - 1) + 1 by omega, sTo, if_pos c_11, if_pos c_19] at he; rw [← he])) rfl
  exact loop_2 (m + 1) 0 f (by omega) (by omega) hW rfl
def sLp (f : hMem) (j : Nat) : hMem := if f 0 4 ≤ f (3 + j) 5 then up2 f (3 + j) 5 0 else f
def cl (f : hMem) : Nat → hMem
  | 0 => f
  | i + 1 => match sHold (cl f i) (nI i) with
    | none => cl f i
    | some j => sLp (cl f i) j
theorem cl_none {f : hMem} {i : Nat} (h : sHold (cl f i) (nI i) = none) : cl f (i + 1) = cl f i := by rw [cl, h]
theorem cl_some {f : hMem} {i j : Nat} (h : sHold (cl f i) (nI i) = some j) : cl f (i + 1) = sLp (cl f i) j := by rw [cl, h]
theorem SWcl {f : hMem} {lv c : Nat} (h : SW f lv c) (i : Nat) : SW (cl f i) lv c := by
  induction i with
  | zero => exact h
  | succ i ih =>
    cases hh : sHold (cl f i) (nI i) with
    | none => rw [cl_none hh]; exact ih
    | some j =>
      rw [cl_some hh]
      unfold sLp
      split
      · exact ih.up (by omega) (by omega)
      · exact ih
def sLap (f : hMem) (lv : Nat) (m : Int32) : hMem := cl (up2 f 0 4 m) lv
set_option maxHeartbeats 4000000 in
set_option maxRecDepth 20000 in
theorem c_X4_changeLap (l : Launch) (z : hZt) {n : Nat} {M : hMem} {R : hRef} {o : Nat} (hS : hSt n R o) {f : hMem} {lv c : Nat} (hW : SW f lv c) (x : Int32) : hCt l z m_X4_changeLap [.ref (z.1 + o), .int x] n (putS M o f) R n none (putS M o (sLap f lv x)) R := by
  refine hs_start [some (.ref (z.1 + o)), some (.int x), none, none] (by decide +kernel) rfl (by intro u hu; simp at hu; rcases hu with rfl | rfl <;> first | rfl | exact isR_cat kv_isR | exact isR_cat aref_isR) (Nat.le_of_ble_eq_true rfl) (Nat.le_refl _) (fun X hlX hN hC hQ => ?_)
  dsimp only at hC hQ
  have hl16 := hW.l16
  have hW1 : SW (up2 f 0 4 x) lv c := hW.up (by omega) (by omega)
  refine gx_aload_n (i := 0) hC dX4_changeLap_0 rfl rfl (by first | exact Or.inr ⟨_, rfl⟩ | exact Or.inl rfl | exact kv_isR | exact aref_isR) ?_
  refine gx_iload_n (i := 1) hC dX4_changeLap_1 rfl rfl ?_
  refine gx_putI hC dX4_changeLap_2 fl_X4_25 (by first | exact hS.at | exact hS.aa | exact hS.ah | exact hS.ac (by assumption) | exact hS.ac (by omega)) fn_3_4 rfl (up_S0) ?_
  refine gx_iconst (v := nI 0) hC dX4_changeLap_5 ic_0n ?_
  refine gx_istore_n (i := 2) (L' := [_, _, _, _]) hC dX4_changeLap_6 rfl (Nat.le_of_ble_eq_true rfl) rfl (fun u h9 => by first | exact Or.inl rfl | (cases h9; done) | (right; cases h9; first | rfl | exact isR_cat aref_isR | exact isR_cat kv_isR)) ?_
  have loop_7 : ∀ (k : Nat) (i : Nat) (w : Option Value), lv - i < k → i ≤ lv → hG z n X n (putS M o (cl (up2 f 0 4 x) i)) R 7 [some (.ref (z.1 + o)), some (.int x), some (.int (nI i)), w] [] := by
    intro k
    induction k with
    | zero => intros; omega
    | succ k ih =>
      intro i w hk1 hi
      refine gx_iload_n (i := 2) hC dX4_changeLap_7 rfl rfl ?_
      refine gx_aload_n (i := 0) hC dX4_changeLap_8 rfl rfl (by first | exact Or.inr ⟨_, rfl⟩ | exact Or.inl rfl | exact kv_isR | exact aref_isR) ?_
      refine gx_getI hC dX4_changeLap_9 fl_X4_21 (by first | exact hS.at | exact hS.aa | exact hS.ah | exact hS.ac (by assumption) | exact hS.ac (by omega)) (by decide) (pS0.trans (SWcl hW1 i).lv) ?_
      refine gx_icmp_ge (tgt := 47) hC dX4_changeLap_12 (by decide) (fun c_12 => ?_) (fun c_12 => ?_)
      · have d_12 := cle (by omega) (by omega) c_12
        exact gx_vret hC hQ dX4_changeLap_47 (by unfold sLap; rw [show lv = i by omega]) rfl
      · have d_12 := cnle (by omega) (by omega) c_12
        refine gx_aload_n (i := 0) hC dX4_changeLap_15 rfl rfl (by first | exact Or.inr ⟨_, rfl⟩ | exact Or.inl rfl | exact kv_isR | exact aref_isR) ?_
        refine gx_iload_n (i := 2) hC dX4_changeLap_16 rfl rfl ?_
        refine gx_callV1 hC dX4_changeLap_17 (c_X4_holderOf _ _ hS _) kY_X4_holderOf kV_X4_holderOf ml_X4_82 (by first | exact hS.at | exact hS.aa | exact hS.ah | exact hS.ac (by assumption) | exact hS.ac (by omega)) rfl (by decide) rfl rfl rfl (by first | exact Nat.le_of_ble_eq_true rfl | (simp [Value.category, isR_cat kv_isR, isR_cat aref_isR]; done)) (Nat.le_refl _) (Nat.le_refl _) ?_
        refine gx_astore_n (i := 3) (L' := [_, _, _, _]) hC dX4_changeLap_20 rfl (Nat.le_of_ble_eq_true rfl) rfl (fun u h9 => by first | exact Or.inl rfl | (cases h9; done) | (right; cases h9; first | rfl | exact isR_cat aref_isR | exact isR_cat kv_isR)) (by first | exact Or.inr ⟨_, rfl⟩ | exact Or.inl rfl | exact kv_isR | exact aref_isR) ?_
        refine gx_aload_n (i := 3) hC dX4_changeLap_21 rfl rfl (by first | exact Or.inr ⟨_, rfl⟩ | exact Or.inl rfl | exact kv_isR | exact aref_isR) ?_
        refine gx_ifnull_o (tgt := 41) hC dX4_changeLap_22 (by decide) (fun c_22 => ?_) (fun j_22 c_22 => ?_)
        · try simp only [c_22, aref_none]
          refine gx_iinc (i := 2) (L' := [_, _, _, _]) hC dX4_changeLap_41 rfl (ii_1 _) (Nat.le_of_ble_eq_true rfl) rfl (fun u h9 => by first | exact Or.inl rfl | (cases h9; done) | (right; cases h9; first | rfl | exact isR_cat aref_isR | exact isR_cat kv_isR)) ?_
          refine gx_goto (tgt := 7) hC dX4_changeLap_44 (by decide) ?_
          have h9 := fun w => ih (i + 1) w (by omega) (by omega)
          rw [cl_none c_22] at h9
          exact h9 _
        · have hj_22 := sHold_lt c_22
          simp only [c_22, aref_some]
          refine gx_aload_n (i := 3) hC dX4_changeLap_25 rfl rfl (by first | exact Or.inr ⟨_, rfl⟩ | exact Or.inl rfl | exact kv_isR | exact aref_isR) ?_
          refine gx_getI hC dX4_changeLap_26 fl_X4_85 (by first | exact hS.at | exact hS.aa | exact hS.ah | exact hS.ac (by assumption) | exact hS.ac (by omega)) (by decide) (pSj (by omega)) ?_
          refine gx_aload_n (i := 0) hC dX4_changeLap_29 rfl rfl (by first | exact Or.inr ⟨_, rfl⟩ | exact Or.inl rfl | exact kv_isR | exact aref_isR) ?_
          refine gx_getI hC dX4_changeLap_30 fl_X4_25 (by first | exact hS.at | exact hS.aa | exact hS.ah | exact hS.ac (by assumption) | exact hS.ac (by omega)) (by decide) (pS0) ?_
          refine gx_icmp_lt (tgt := 41) hC dX4_changeLap_33 (by decide) (fun c_33 => ?_) (fun c_33 => ?_)
          · refine gx_iinc (i := 2) (L' := [_, _, _, _]) hC dX4_changeLap_41 rfl (ii_1 _) (Nat.le_of_ble_eq_true rfl) rfl (fun u h9 => by first | exact Or.inl rfl | (cases h9; done) | (right; cases h9; first | rfl | exact isR_cat aref_isR | exact isR_cat kv_isR)) ?_
            refine gx_goto (tgt := 7) hC dX4_changeLap_44 (by decide) ?_
            have h9 := fun w => ih (i + 1) w (by omega) (by omega)
            rw [cl_some c_22] at h9
            unfold sLp at h9
            rw [if_neg (Int32.not_le.mpr c_33)] at h9
            exact h9 _
          · refine gx_aload_n (i := 3) hC dX4_changeLap_36 rfl rfl (by first | exact Or.inr ⟨_, rfl⟩ | exact Or.inl rfl | exact kv_isR | exact aref_isR) ?_
            refine gx_iconst (v := 0) hC dX4_changeLap_37 ic_0 ?_
            refine gx_putI hC dX4_changeLap_38 fl_X4_85 (by first | exact hS.at | exact hS.aa | exact hS.ah | exact hS.ac (by assumption) | exact hS.ac (by omega)) fn_0_5 rfl (up_S (by omega)) ?_
            refine gx_iinc (i := 2) (L' := [_, _, _, _]) hC dX4_changeLap_41 rfl (ii_1 _) (Nat.le_of_ble_eq_true rfl) rfl (fun u h9 => by first | exact Or.inl rfl | (cases h9; done) | (right; cases h9; first | rfl | exact isR_cat aref_isR | exact isR_cat kv_isR)) ?_
            refine gx_goto (tgt := 7) hC dX4_changeLap_44 (by decide) ?_
            have h9 := fun w => ih (i + 1) w (by omega) (by omega)
            rw [cl_some c_22] at h9
            unfold sLp at h9
            rw [if_pos (Int32.not_lt.mp c_33)] at h9
            exact h9 _
  exact loop_7 (lv + 1) 0 _ (by omega) (by omega)
def fillN (M : hMem) (i : Nat) (v : Int32) (m : Nat) : hMem := fun b q => if b = i ∧ q < m then v else M b q
theorem fillN_s {M : hMem} {i m : Nat} {v : Int32} : up2 (fillN M i v m) i m v = fillN M i v (m + 1) := by
  funext b q
  unfold fillN up2
  by_cases hb : b = i
  · by_cases hq : q = m
    · simp [hb, hq]
    · by_cases h2 : q < m
      · simp [hb, hq, h2, show q < m + 1 by omega]
      · simp [hb, hq, h2, show ¬ q < m + 1 by omega]
  · simp [hb]
theorem fillN_0 {M : hMem} {i : Nat} {v : Int32} : fillN M i v 0 = M := by
  funext b q
  simp [fillN]
def sFill (f : hMem) (v : Int32) : hMem := fun b q => if b = 2 ∧ q < 16 then v else f b q
theorem fillN_S {M f : hMem} {o : Nat} {v : Int32} : fillN (putS M o f) (o + 2) v 16 = putS M o (sFill f v) := by
  funext b q
  unfold fillN putS sFill
  by_cases hb : o ≤ b ∧ b < o + 23
  · rw [if_pos hb, if_pos hb]
    by_cases h2 : b = o + 2
    · subst h2; simp
    · rw [if_neg (fun h => h2 h.1), if_neg (fun h => h2 (by omega))]
  · rw [if_neg hb, if_neg hb, if_neg (fun h => hb (by omega))]
set_option maxHeartbeats 4000000 in
set_option maxRecDepth 20000 in
theorem c_J7_fill_53178 (l : Launch) (z : hZt) {n : Nat} {M : hMem} {R : hRef} {i len : Nat} (ha : hAt n i (1, len)) (hl : len < 1000) (v : Int32) : hCt l z m_J7_fill_53178 [.ref (z.1 + i), .int v] n M R n none (fillN M i v len) R := by
  refine hs_start [some (.ref (z.1 + i)), some (.int v), none, none] (by decide +kernel) rfl (by intro u hu; simp at hu; rcases hu with rfl | rfl <;> first | rfl | exact isR_cat kv_isR | exact isR_cat aref_isR) (Nat.le_of_ble_eq_true rfl) (Nat.le_refl _) (fun X hlX hN hC hQ => ?_)
  dsimp only at hC hQ
  refine gx_iconst (v := nI 0) hC dJ7_fill_53178_0 ic_0n ?_
  refine gx_istore_n (i := 2) (L' := [_, _, _, _]) hC dJ7_fill_53178_1 rfl (Nat.le_of_ble_eq_true rfl) rfl (fun u h9 => by first | exact Or.inl rfl | (cases h9; done) | (right; cases h9; first | rfl | exact isR_cat aref_isR | exact isR_cat kv_isR)) ?_
  refine gx_aload_n (i := 0) hC dJ7_fill_53178_2 rfl rfl (by first | exact Or.inr ⟨_, rfl⟩ | exact Or.inl rfl | exact kv_isR | exact aref_isR) ?_
  refine gx_alenN hC dJ7_fill_53178_3 (by assumption) (by decide) ?_
  refine gx_istore_n (i := 3) (L' := [_, _, _, _]) hC dJ7_fill_53178_4 rfl (Nat.le_of_ble_eq_true rfl) rfl (fun u h9 => by first | exact Or.inl rfl | (cases h9; done) | (right; cases h9; first | rfl | exact isR_cat aref_isR | exact isR_cat kv_isR)) ?_
  have loop_5 : ∀ (k : Nat) (m : Nat), len - m < k → m ≤ len → hG z n X n (fillN M i v m) R 5 [some (.ref (z.1 + i)), some (.int v), some (.int (nI m)), some (.int (nI len))] [] := by
    intro k
    induction k with
    | zero => intros; omega
    | succ k ih =>
      intro m hk1 hm
      refine gx_iload_n (i := 2) hC dJ7_fill_53178_5 rfl rfl ?_
      refine gx_iload_n (i := 3) hC dJ7_fill_53178_6 rfl rfl ?_
      refine gx_icmp_ge (tgt := 20) hC dJ7_fill_53178_7 (by decide) (fun c_7 => ?_) (fun c_7 => ?_)
      · have d_7 := cle (by omega) (by omega) c_7
        exact gx_vret hC hQ dJ7_fill_53178_20 (by rw [show len = m by omega]) rfl
      · have d_7 := cnle (by omega) (by omega) c_7
        refine gx_aload_n (i := 0) hC dJ7_fill_53178_10 rfl rfl (by first | exact Or.inr ⟨_, rfl⟩ | exact Or.inl rfl | exact kv_isR | exact aref_isR) ?_
        refine gx_iload_n (i := 2) hC dJ7_fill_53178_11 rfl rfl ?_
        refine gx_iload_n (i := 1) hC dJ7_fill_53178_12 rfl rfl ?_
        refine gx_iastM hC dJ7_fill_53178_13 (by assumption) (by exact vpn (by omega) (by omega)) ((congrArg (fun q => up2 (fillN M i v m) i q v) (nI_clamp (by omega))).trans fillN_s) ?_
        refine gx_iinc (i := 2) (L' := [_, _, _, _]) hC dJ7_fill_53178_14 rfl (ii_1 _) (Nat.le_of_ble_eq_true rfl) rfl (fun u h9 => by first | exact Or.inl rfl | (cases h9; done) | (right; cases h9; first | rfl | exact isR_cat aref_isR | exact isR_cat kv_isR)) ?_
        refine gx_goto (tgt := 5) hC dJ7_fill_53178_17 (by decide) ?_
        exact ih (m + 1) (by omega) (by omega)
  rw [← fillN_0 (M := M) (i := i) (v := v)]
  exact loop_5 (len + 1) 0 (by omega) (by omega)
theorem d_fill {l : Launch} {z : hZt} {n : Nat} {M : hMem} {R : hRef} {o : Nat} {f : hMem} (hS : hSt n R o) (v : Int32) : hCt l z m_J7_fill_53178 [.ref (z.1 + (o + 2)), .int v] n (putS M o f) R n none (putS M o (sFill f v)) R := by
  have h := c_J7_fill_53178 l z (M := putS M o f) (R := R) hS.ah (by decide) v
  rw [fillN_S] at h
  exact h
def sNew (f : hMem) (lev : Int32) : hMem := up2 (up2 (up2 (up2 (up2 (up2 (up2 (up2 (sFill (up2 (up2 f 0 3 lev) 0 2 0) (-6)) 0 8 0) 0 9 0) 0 10 0) 0 11 0) 0 12 0) 0 13 0) 0 14 0) 0 15 0
set_option maxHeartbeats 4000000 in
set_option maxRecDepth 20000 in
theorem c_X4_beginAnew (l : Launch) (z : hZt) {n : Nat} {M : hMem} {R : hRef} {o : Nat} (hS : hSt n R o) {f : hMem} (lev : Int32) : hCt l z m_X4_beginAnew [.ref (z.1 + o), .int lev] n (putS M o f) R n none (putS M o (sNew f lev)) R := by
  refine hs_start [some (.ref (z.1 + o)), some (.int lev)] (by decide +kernel) rfl (by intro u hu; simp at hu; rcases hu with rfl | rfl <;> first | rfl | exact isR_cat kv_isR | exact isR_cat aref_isR) (Nat.le_of_ble_eq_true rfl) (Nat.le_refl _) (fun X hlX hN hC hQ => ?_)
  dsimp only at hC hQ
  refine gx_aload_n (i := 0) hC dX4_beginAnew_0 rfl rfl (by first | exact Or.inr ⟨_, rfl⟩ | exact Or.inl rfl | exact kv_isR | exact aref_isR) ?_
  refine gx_iload_n (i := 1) hC dX4_beginAnew_1 rfl rfl ?_
  refine gx_putI hC dX4_beginAnew_2 fl_X4_21 (by first | exact hS.at | exact hS.aa | exact hS.ah | exact hS.ac (by assumption) | exact hS.ac (by omega)) fn_3_3 rfl (up_S0) ?_
  refine gx_aload_n (i := 0) hC dX4_beginAnew_5 rfl rfl (by first | exact Or.inr ⟨_, rfl⟩ | exact Or.inl rfl | exact kv_isR | exact aref_isR) ?_
  refine gx_iconst (v := 0) hC dX4_beginAnew_6 ic_0 ?_
  refine gx_putI hC dX4_beginAnew_7 fl_X4_47 (by first | exact hS.at | exact hS.aa | exact hS.ah | exact hS.ac (by assumption) | exact hS.ac (by omega)) fn_3_2 rfl (up_S0) ?_
  refine gx_aload_n (i := 0) hC dX4_beginAnew_10 rfl rfl (by first | exact Or.inr ⟨_, rfl⟩ | exact Or.inl rfl | exact kv_isR | exact aref_isR) ?_
  refine gx_getR hC dX4_beginAnew_11 fl_X4_17 (by first | exact hS.at | exact hS.aa | exact hS.ah | exact hS.ac (by assumption) | exact hS.ac (by omega)) rfl (hS.rh) (by have := hS.1; omega) ?_
  refine gx_bipush (v := -6) hC dX4_beginAnew_14 bp_m6 ?_
  refine gx_callS0 hC dX4_beginAnew_16 (d_fill hS _) kY_J7_fill_53178 kS_J7_fill_53178 ml_X4_41 (by decide) rfl rfl rfl (by first | exact Nat.le_of_ble_eq_true rfl | (simp [Value.category, isR_cat kv_isR, isR_cat aref_isR]; done)) (Nat.le_refl _) (Nat.le_refl _) ?_
  refine gx_aload_n (i := 0) hC dX4_beginAnew_19 rfl rfl (by first | exact Or.inr ⟨_, rfl⟩ | exact Or.inl rfl | exact kv_isR | exact aref_isR) ?_
  refine gx_iconst (v := 0) hC dX4_beginAnew_20 ic_0 ?_
  refine gx_putI hC dX4_beginAnew_21 fl_X4_50 (by first | exact hS.at | exact hS.aa | exact hS.ah | exact hS.ac (by assumption) | exact hS.ac (by omega)) fn_3_8 rfl (up_S0) ?_
  refine gx_aload_n (i := 0) hC dX4_beginAnew_24 rfl rfl (by first | exact Or.inr ⟨_, rfl⟩ | exact Or.inl rfl | exact kv_isR | exact aref_isR) ?_
  refine gx_iconst (v := 0) hC dX4_beginAnew_25 ic_0 ?_
  refine gx_putI hC dX4_beginAnew_26 fl_X4_53 (by first | exact hS.at | exact hS.aa | exact hS.ah | exact hS.ac (by assumption) | exact hS.ac (by omega)) fn_3_9 rfl (up_S0) ?_
  refine gx_aload_n (i := 0) hC dX4_beginAnew_29 rfl rfl (by first | exact Or.inr ⟨_, rfl⟩ | exact Or.inl rfl | exact kv_isR | exact aref_isR) ?_
  refine gx_iconst (v := 0) hC dX4_beginAnew_30 ic_0 ?_
  refine gx_putI hC dX4_beginAnew_31 fl_X4_56 (by first | exact hS.at | exact hS.aa | exact hS.ah | exact hS.ac (by assumption) | exact hS.ac (by omega)) fn_3_10 rfl (up_S0) ?_
  refine gx_aload_n (i := 0) hC dX4_beginAnew_34 rfl rfl (by first | exact Or.inr ⟨_, rfl⟩ | exact Or.inl rfl | exact kv_isR | exact aref_isR) ?_
  refine gx_iconst (v := 0) hC dX4_beginAnew_35 ic_0 ?_
  refine gx_putI hC dX4_beginAnew_36 fl_X4_59 (by first | exact hS.at | exact hS.aa | exact hS.ah | exact hS.ac (by assumption) | exact hS.ac (by omega)) fn_3_11 rfl (up_S0) ?_
  refine gx_aload_n (i := 0) hC dX4_beginAnew_39 rfl rfl (by first | exact Or.inr ⟨_, rfl⟩ | exact Or.inl rfl | exact kv_isR | exact aref_isR) ?_
  refine gx_iconst (v := 0) hC dX4_beginAnew_40 ic_0 ?_
  refine gx_putI hC dX4_beginAnew_41 fl_X4_62 (by first | exact hS.at | exact hS.aa | exact hS.ah | exact hS.ac (by assumption) | exact hS.ac (by omega)) fn_3_12 rfl (up_S0) ?_
  refine gx_aload_n (i := 0) hC dX4_beginAnew_44 rfl rfl (by first | exact Or.inr ⟨_, rfl⟩ | exact Or.inl rfl | exact kv_isR | exact aref_isR) ?_
  refine gx_iconst (v := 0) hC dX4_beginAnew_45 ic_0 ?_
  refine gx_putI hC dX4_beginAnew_46 fl_X4_65 (by first | exact hS.at | exact hS.aa | exact hS.ah | exact hS.ac (by assumption) | exact hS.ac (by omega)) fn_3_13 rfl (up_S0) ?_
  refine gx_aload_n (i := 0) hC dX4_beginAnew_49 rfl rfl (by first | exact Or.inr ⟨_, rfl⟩ | exact Or.inl rfl | exact kv_isR | exact aref_isR) ?_
  refine gx_iconst (v := 0) hC dX4_beginAnew_50 ic_0 ?_
  refine gx_putI hC dX4_beginAnew_51 fl_X4_68 (by first | exact hS.at | exact hS.aa | exact hS.ah | exact hS.ac (by assumption) | exact hS.ac (by omega)) fn_3_14 rfl (up_S0) ?_
  refine gx_aload_n (i := 0) hC dX4_beginAnew_54 rfl rfl (by first | exact Or.inr ⟨_, rfl⟩ | exact Or.inl rfl | exact kv_isR | exact aref_isR) ?_
  refine gx_iconst (v := 0) hC dX4_beginAnew_55 ic_0 ?_
  refine gx_putI hC dX4_beginAnew_56 fl_X4_71 (by first | exact hS.at | exact hS.aa | exact hS.ah | exact hS.ac (by assumption) | exact hS.ac (by omega)) fn_3_15 rfl (up_S0) ?_
  exact gx_vret hC hQ dX4_beginAnew_59 (rfl) rfl
