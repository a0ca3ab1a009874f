/-! the calls that read the text -/
def cOk (cs : List Nat) : Prop := ∀ x ∈ cs, 32 ≤ x ∧ x ≤ 126
theorem cOk.app {xs ys : List Nat} (h1 : cOk xs) (h2 : cOk ys) : cOk (xs ++ ys) := fun x hx => (List.mem_append.mp hx).elim (h1 x) (h2 x)
theorem cOk.cons {x : Nat} {xs : List Nat} (hx : 32 ≤ x ∧ x ≤ 126) (h : cOk xs) : cOk (x :: xs) := fun y hy => (List.mem_cons.mp hy).elim (fun e => e ▸ hx) (h y)
theorem cOk.nil : cOk [] := fun x hx => by cases hx
theorem dg_ok {n : Nat} (h : n ≤ 999) : cOk (dg n) := by
  by_cases h1 : n < 10
  · rw [dg_1 h1]; exact cOk.cons (by omega) cOk.nil
  · by_cases h2 : n < 100
    · rw [dg_2 (by omega) h2]; exact cOk.cons (by omega) (cOk.cons (by omega) cOk.nil)
    · rw [dg_3 (by omega)]; exact cOk.cons (by omega) (cOk.cons (by omega) (cOk.cons (by omega) cOk.nil))
theorem kl_in {k : Nat} : 32 ≤ kl k ∧ kl k ≤ 126 := by
  unfold kl
  split
  · decide
  · split <;> decide
theorem sL_ok {k fu le : Nat} (hf : fu ≤ 999) (hl : le ≤ 999) : cOk (sL k fu le) := cOk.cons (by decide) (cOk.cons kl_in ((dg_ok hf).app (cOk.cons (by decide) (dg_ok hl))))
theorem TX.ok {M : hMem} {cs : List Nat} (h : TX M cs) (hc : cOk cs) (hl : cs.length ≤ 80) : txO (M 214) cs.length := ⟨hl, fun p hp => by
  have hm : cs.getD p 0 ∈ cs := by
    rw [List.getD_eq_getElem?_getD, List.getElem?_eq_getElem hp]
    exact List.getElem_mem hp
  exact ⟨_, (hc _ hm).1, (hc _ hm).2, h.2 p hp⟩⟩
section TC
variable {l : Launch} {z : hZt} {M : hMem} {R : hRef} {v : gRow} {lv c q : Nat} {H : Nat → gRow} {K : Nat → Option gRow} {cs : List Nat}
theorem t_clear (h : PI M R v lv c q H K) : ∃ a M2, hCt l z m_X6_clearText [.ref (z.1 + 0)] 215 M R 215 (some (.int a)) M2 R ∧ PI M2 R v lv c q H K ∧ TX M2 [] :=
  ⟨_, _, c_X6_clearText l z h.gs, h.txt (fun a k h1 h2 => up2_off (fun e => h1 e.1)), ⟨up2_same.trans nI_0.symm, fun p hp => absurd hp (Nat.not_lt_zero _)⟩⟩
theorem t_app (h : PI M R v lv c q H K) (ht : TX M cs) (hl : cs.length < 80) {x : Nat} (h1 : 32 ≤ x) (h2 : x ≤ 126) : ∃ M2, hCt l z m_X6_append [.ref (z.1 + 0), .int (nI x)] 215 M R 215 (some (.int (nI (cs.length + 1)))) M2 R ∧ PI M2 R v lv c q H K ∧ TX M2 (cs ++ [x]) :=
  ⟨_, c_X6_append l z h.gs ht.1 hl h1 h2, h.txt (fun a k h1 h2 => aM_o h1 h2), ht.one⟩
theorem row_is {X : hMem} {i : Nat} {w : Nat → Int32} : putRow X i w i = w := funext fun k => pRs
theorem PI.ff (h : PI M R v lv c q H K) (ht : TX M cs) : PI (putRow M 213 (sFF (M 214) (M 213))) R v lv c q H K ∧ TX (putRow M 213 (sFF (M 214) (M 213))) cs := by
  refine ⟨h.txt (fun a k h1 h2 => pRo h1), ?_, fun p hp => ?_⟩
  · rw [pRs, sFF_1]; exact ht.1
  · rw [pRo (by decide)]; exact ht.2 p hp
theorem t_fault (h : PI M R v lv c q H K) (ht : TX M cs) (hc : cOk cs) (hl : cs.length ≤ 80) {a : Int32} (ha : (if (mTx (M 214) cs.length 81 0).1 = true then -6 else nI (mTx (M 214) cs.length 81 0).2) = a) : ∃ M2, hCt l z m_X6_faultPosition [.ref (z.1 + 0)] 215 M R 215 (some (.int a)) M2 R ∧ PI M2 R v lv c q H K ∧ TX M2 cs := by
  have k := c_X6_faultPosition l z h.gs (M := M)
  rw [sFF_ok (ht.ok hc hl) ht.1, ha] at k
  exact ⟨_, k, (h.ff ht).1, (h.ff ht).2⟩
theorem t_run0 (h : PI M R v lv c q H K) (ht : TX M cs) (hc : cOk cs) (hl : cs.length ≤ 80) (hx : ¬ (mTx (M 214) cs.length 81 0).1 = true) : ∃ M2, hCt l z m_X6_run [.ref (z.1 + 0)] 215 M R 215 (some (.int (-3))) M2 R ∧ PI M2 R v lv c q H K ∧ TX M2 cs := by
  have hf := sFF_ok (ht.ok hc hl) ht.1
  rw [if_neg hx] at hf
  have hp := mTx_p (s := M 214) (L := cs.length) (f := 81) (p := 0) (Nat.zero_le _)
  have n6 : ¬ sFF (M 214) (M 213) 3 = -6 := by rw [hf]; exact nI_n6 (by omega)
  exact ⟨_, c0_X6_run l z h.gs n6, (h.ff ht).1, (h.ff ht).2⟩
theorem pM_row {s : Nat → Int32} (h : PI M R v lv c q H K) : pM (putRow M 213 s) R q c = putRow (pM M R q c) 213 s := by
  have hb := (pB_bas h.gs q).ge
  have e1 : getS (putRow M 213 s) (pB R q) = getS M (pB R q) := getS_eq (fun i k hi => pRo (by omega))
  have e2 : getS (putRow M 213 s) 1 = getS M 1 := getS_eq (fun i k hi => pRo (by omega))
  funext a k
  by_cases x3 : a = 213
  · subst x3
    rw [pM_n h.gs (by decide), pRs, pRs]
  · rw [pRo x3]
    unfold pM
    rw [e1, e2]
    by_cases x1 : a = 47 ∧ k = 1
    · obtain ⟨rfl, rfl⟩ := x1
      rw [up2_same, up2_same]
    · rw [up2_off x1, up2_off x1]
      by_cases x2 : pB R q ≤ a ∧ a < pB R q + 23
      · unfold putS
        rw [if_pos x2, if_pos x2]
      · rw [pSo (by omega), pSo (by omega), pRo x3]
theorem t_runx (h : PI M R v lv c q H K) (ht : TX M cs) (hc : cOk cs) (hl : cs.length ≤ 80) (hx : (mTx (M 214) cs.length 81 0).1 = true) : ∃ M2 R2, hCt l z m_X6_run [.ref (z.1 + 0)] 215 M R 215 (some (.int (nI (mRu (M 214) cs.length lv 81 0 (fun _ => 0) v c 0).1))) M2 R2 ∧
    PI M2 R2 (mRu (M 214) cs.length lv 81 0 (fun _ => 0) v c 0).2.1 lv (mRu (M 214) cs.length lv 81 0 (fun _ => 0) v c 0).2.2.1 (min q 4 + 1) (hPu H q v) K := by
  have t1 := ht.ok hc hl
  have hf := sFF_ok t1 ht.1
  rw [if_pos hx] at hf
  have k := c_X6_run l z h.gs h.sw h.qc h.q5 hf
  have hX : ruM M R q c = putRow (pM M R q c) 213 (sRes (sFF (M 214) (M 213))) := by
    unfold ruM
    rw [pM_row h, row_is, putRow_put]
  rw [hX] at k
  have g1 : getS (putRow (pM M R q c) 213 (sRes (sFF (M 214) (M 213)))) 1 = getS M 1 := by rw [getS_row, pM_now h.gs]
  have e13 : putRow (pM M R q c) 213 (sRes (sFF (M 214) (M 213))) 213 = sRes (sFF (M 214) (M 213)) := row_is
  have e14 : putRow (pM M R q c) 213 (sRes (sFF (M 214) (M 213))) 214 = M 214 := funext fun k => (pRo (by decide)).trans (pM_n h.gs (by decide))
  have hok : pOk (sRes (sFF (M 214) (M 213))) cs.length 0 := sRes_ok (sFF_1.trans ht.1)
  have rr := ruS_ok t1 80 0 0 (putRow (pM M R q c) 213 (sRes (sFF (M 214) (M 213)))) v (fun _ => 0) c (by rw [g1]; exact h.rl) (by rw [e13]; exact hok) (Nat.zero_le _) (by omega) e14 hx
  rw [show 80 + 1 = 81 from rfl] at rr
  obtain ⟨r1, r2, r3, r4⟩ := rr
  rw [r1] at k
  refine ⟨_, _, k, h.rec (fun a k h1 h2 => (r4 a k (Or.inr h1) h2).trans (pRo h2)) r2⟩
end TC
