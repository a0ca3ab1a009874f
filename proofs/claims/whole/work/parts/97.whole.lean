/-! the law, whole -/
set_option maxHeartbeats 4000000 in
set_option maxRecDepth 20000 in
theorem law_walk {z : hZt} {b Ls : Nat} {X : hXt} {xs : Nat → Int32} (hC : hOk z 0 X cL_law RL 4 10 226) (hX : va_X b Ls xs X.1.2.2.2.2.1 X.1.2.2.2.2.1.heap) (hbl : b < X.1.2.2.2.2.1.heap.size) (hLs : Ls ≤ 2048)
    (hend : ∀ M R Lc, hG z 0 X 226 M R 752 Lc []) : hG z 0 X 0 D0 R0 0 [some (.ref b), none, none, none] [] := by
  have k18 := law_loop hC hX hbl hLs hend (Ls + 1) 0 MI RI 10 0 0 0 (by omega) (by omega) inv_i
  refine gx_new hC dL_law_0 cL_L_7 rfl (by decide) (fun k hk => ⟨rfl, rfl⟩) ?_
  refine gx_dup hC dL_law_3 rfl ?_
  refine gx_callI (i := 0) hC dL_law_4 (c_X6_init _ _ frs_0) kY_X6_init kI_X6_init rfl ml_L_9 (by decide) rfl rfl rfl (Nat.le_of_ble_eq_true rfl) (by decide) (by decide) ?_
  refine gx_astore_n (i := 1) (L' := [some (.ref b), some (.ref (z.1 + 0)), none, none]) hC dL_law_7 rfl (Nat.le_of_ble_eq_true rfl) rfl (fun u h9 => by right; cases h9; rfl) (Or.inr ⟨_, rfl⟩) ?_
  refine gx_new hC dL_law_8 cL_L_10 rfl (by decide) (fun k hk => Frs_new (Frs_5 frs_0) rfl k) ?_
  refine gx_dup hC dL_law_11 rfl ?_
  refine gx_callI (i := 215) hC dL_law_12 (c_X7_init _ _ (Frs_le (Frs_5 frs_0) (by decide))) kY_X7_init kI_X7_init rfl ml_L_12 (by decide) rfl rfl rfl (Nat.le_of_ble_eq_true rfl) (by decide) (by decide) ?_
  refine gx_astore_n (i := 2) (L' := [some (.ref b), some (.ref (z.1 + 0)), some (.ref (z.1 + 215)), none]) hC dL_law_15 rfl (Nat.le_of_ble_eq_true rfl) rfl (fun u h9 => by right; cases h9; rfl) (Or.inr ⟨_, rfl⟩) ?_
  refine gx_iconst (v := nI 0) hC dL_law_16 ic_0n ?_
  refine gx_istore_n (i := 3) (L' := lwL z b 0) hC dL_law_17 rfl (Nat.le_of_ble_eq_true rfl) rfl (fun u h9 => by right; cases h9; rfl) ?_
  exact k18
theorem slt_226 : slt 226 - slt 0 ≤ 7302250 := by decide +kernel
set_option maxHeartbeats 4000000 in
/-- YOUR PART: from the entry, for every script of at most 2048 ints, the law comes to its end with true -/
theorem whole_start {p : Program} {e : Env} {s : State} {m : MethodId} {below : List Frame} {meth : Method} {c : Code} (l : Launch) (hflags : l.flags = flags0) {b L : Nat} {xs : Nat → Int32} (hL : L ≤ 2048) (C0 : lw_At p s m meth c b L xs) : W p l e room_1 s m #[Value.ref b] below meth c s.heap [] 0 0 (lw_Z below #[Value.ref b] s) (entryFrame m ([Value.ref b] : List Value).toArray 4) := by
  obtain ⟨hx, hb, hr, hml, hown, hts, hX, hbl, hlocks, hgv⟩ := id C0
  have hh : ∀ w ∈ hgd, w.before #[Value.ref b] s = true := fun w hw => hts w (List.mem_filter.mp hw).1
  obtain ⟨ek, G, ac, hFx⟩ := law_world hts hgv
  have hC : hOk (s.heap.size, ek, G, ac) 0 (lwX p l e s m below meth c b) cL_law RL 4 10 226 :=
    ⟨hx, hb, hml, hown, hh, hFx, (show (10 : Nat) ≤ room_1.frames by decide), (show 34 * 10 ≤ room_1.locals by decide), rfl, by decide, (show 226 - 0 ≤ room_1.cells by decide), slt_226⟩
  have hend : ∀ M R Lc, hG (s.heap.size, ek, G, ac) 0 (lwX p l e s m below meth c b) 226 M R 752 Lc [] := fun M R Lc => by
    refine gx_iconst (v := 1) hC dL_law_752 ic_1 ?_
    intro H locs ls h1 h2 h3
    refine va_forget (fun q hq => h2.2.2 q hq) ?_
    refine W.widen (k := 600000) (n := 7302250) (by decide) slt_226 ?_
    exact lw_ret hx hb hr hlocks dL_law_753
  have hl := lh_entry (mL := 4) [Value.ref b] (by intro v hv; simp at hv; subst hv; rfl) (Nat.le_of_ble_eq_true rfl)
  rw [lg_entry_eq]
  have h := law_walk hC hX hbl hL hend s.heap [] _ ⟨fun k q h => by simp [wl] at h, rfl, fun i hi => absurd hi (Nat.not_lt_zero _)⟩ va_S.rf hl
  rw [Nat.sub_self, Nat.sub_self] at h
  exact h
