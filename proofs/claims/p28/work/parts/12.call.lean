/-! new cells, calls, ends, the start of a contract -/
def dfl (ci k : Nat) : Int32 := if sty ci k = 3 then -1 else 0
def hCl (own : String) (idx ci : Nat) : Prop := ∃ (C : String) (T : u_T) (N : Nat) (tt : Nat → FieldType), hcl[ci]? = some (C, T, N) ∧ N = hN ci ∧ Cond.classLink own idx C ∈ hgd ∧ Cond.instantiable C N ∈ hgd ∧ Cond.initialized C ∈ hgd ∧ (∀ w ∈ u_ws C T N, w ∈ hgd) ∧
  (∀ j, j < N → parseFieldDescriptor (T j).2.2.1 = some (tt j)) ∧ ∀ j, j < N → defaultValue (tt j) = if sty ci j < 3 then .int 0 else .null
def hYk (y : hYd) (np : Nat) : Prop := Cond.code y.1 y.2.1 y.2.2.1 y.2.2.2.1 ∈ hgd ∧ Cond.initialized y.1.cls ∈ hgd ∧ (y.1.cls ≠ "java/lang/invoke/MethodHandle" ∧ y.1.cls ≠ "java/lang/invoke/VarHandle") ∧ (parseMethodDescriptor y.1.desc).map (fun d => d.parameters.length) = some np ∧ y.2.2.1 ≤ 15
def hYv (y : hYd) : Prop := Cond.instanceMethod y.1 ∈ hgd ∧ Cond.selects y.1.cls y.1 y.1 ∈ hgd
theorem hgd_good (y : hYd) (h : Cond.code y.1 y.2.1 y.2.2.1 y.2.2.2.1 ∈ hgd) : GoodIn hgd (hws y) := by
  intro w hw
  have hm : w ∈ hgd := by
    rcases List.mem_cons.mp hw with rfl | h2
    · exact h
    · exact h2
  exact ⟨hm, good_of_word (List.mem_filter.mp hm).2⟩
theorem dfl_val {z : hZt} {ci k : Nat} : sv z (sty ci k) (dfl ci k) 0 = if sty ci k < 3 then .int 0 else .null := by
  unfold dfl
  have h := sty_lt ci k
  generalize sty ci k = s at *
  match s, h with
  | 0, _ => rfl
  | 1, _ => rfl
  | 2, _ => rfl
  | 3, _ => simp [sv, kv]
  | 4, _ => simp [sv, rv]
section HC
variable {z : hZt} {n0 n nm n2 nL d pc i k ci idx len o np : Nat} {X : hXt} {cc : ByteArray} {own : String} {M M' M2 : hMem} {R R' R2 : hRef} {L L' : List (Option Value)} {st st' : List Value} {x y v : Int32} {w : Value} {vo : Option Value}
theorem slt_room (hC : hOk z n0 X cc own nL d nm) (h0 : n0 ≤ n) (hn : n + 1 ≤ nm) : (n + 1 - n0 = n - n0 + 1) ∧ (slt (n + 1) - slt n0 = slt n - slt n0 + tsz (ty n)) ∧ n - n0 + 1 ≤ X.1.2.2.2.1.cells ∧ slt n - slt n0 + tsz (ty n) ≤ X.1.2.2.2.1.slots := by
  have a1 := slt_mono h0
  have a2 := slt_mono hn
  have a3 : slt (n + 1) = slt n + tsz (ty n) := rfl
  have a4 := hC.2.2.2.2.2.2.2.2.2.2.1
  have a5 := hC.2.2.2.2.2.2.2.2.2.2.2
  refine ⟨by omega, by omega, by omega, by omega⟩
theorem Wf_new (h : Wf n M) (hw : Wfc (ty n) (M n)) : Wf (n + 1) M := by
  intro i hi
  by_cases e : i = n
  · subst e; exact hw
  · exact h i (by omega)
theorem Hp_new {H H1 : Heap} (h1 : Hp z n M R H) (e1 : va_at z.2.2.1 hcl (z.1 + n, ent z (ty n) (M n) (R n)) H1) (z1 : H1.size = H.size + 1) (o1 : ∀ q, q < H.size → H1[q]? = H[q]?) (hw : Wfc (ty n) (M n)) : Hp z (n + 1) M R H1 := by
  refine ⟨fun k q hk => ?_, by have := h1.2.1; omega, Wf_new h1.2.2 hw⟩
  obtain ⟨hk1, rfl⟩ := wl_get hk
  by_cases e : k = n
  · subst e; exact e1
  · have h := h1.1 k _ (wl_at (z := z) (M := M) (R := R) (show k < n by omega))
    refine h.kept (o1 _ ?_)
    have := h1.2.1
    show z.1 + k < H.size
    omega
theorem va_S_new {A : Nat → Prop} {H0 H H1 : Heap} {locs : List Loc} (hS : va_S A H0 H locs) (z1 : H1.size = H.size + 1) (o1 : ∀ q, q < H.size → H1[q]? = H[q]?) : va_S A H0 H1 locs :=
  ⟨Nat.le_trans hS.1 (by omega), fun x h1 h2 => (o1 x (Nat.lt_of_lt_of_le h1 hS.1)).trans (hS.2.1 x h1 h2), hS.2.2⟩
theorem gx_new (hC : hOk z n0 X cc own nL d nm) (hd : decode cc pc = .ok (.new idx, 3)) (hcl' : hCl own idx ci) (hty : ty n = (0, ci)) (hn : n + 1 ≤ nm) (hM : ∀ k, k < hN ci → M n k = dfl ci k ∧ R n k = 0)
    (kk : hG z n0 X (n + 1) M R (pc + 3) L (.ref (z.1 + n) :: st)) : hG z n0 X n M R pc L st := by
  intro H locs ls h1 h2 h3
  obtain ⟨C, T, N, tt, f1, f2, f3, f4, f5, f6, f7, f8⟩ := hcl'
  obtain ⟨r1, r2, r3, r4⟩ := slt_room hC (hn_le hC h1 h2) hn
  have hsz : tsz (ty n) = N := by rw [hty, f2]; rfl
  rw [hsz] at r2 r4
  have hKn := hC.2.2.2.2.2.1.1.1 ci _ f1
  refine W.newcK hC.1 hC.2.1 hC.2.2.2.1 (hC.2.2.2.2.1 _ f3) (hC.2.2.2.2.1 _ f4) (hC.2.2.2.2.1 _ f5) rfl hd r3 r4 hKn.2.1 rfl fun H1 kC hkC e1 z1 o1 => ?_
  have hh : H.size = z.1 + n := h1.2.1
  have k2 := kk H1 locs ls (Hp_new h1 (by
    rw [ent_ob hty]
    rw [hh] at e1
    refine ⟨_, f1, (u_born tt hC.2.2.2.2.1 f6 hKn hkC e1 f7).to fun j hj => ?_⟩
    have hj2 : j < hN ci := by rw [← f2]; exact hj
    rw [f8 j hj]
    simp only [vp_V, List.getD_eq_getElem?_getD]
    rw [obv_at hj2, (hM j hj2).1, (hM j hj2).2, dfl_val]
    rfl) z1 o1 (by
    rw [hty]
    refine ⟨fun _ k hk => ⟨fun t => ?_, fun t => ?_⟩, (fun t => absurd (show 0 = 2 from t) (by decide)), (fun t => absurd (show 0 = 3 from t) (by decide))⟩
    · rw [(hM k hk).1]; left; unfold dfl; rw [if_neg]; rw [t]; decide
    · rw [(hM k hk).1]; refine ⟨0, by decide, ?_⟩; unfold dfl; rw [if_neg (by rw [t]; decide)]; rfl)) (va_S_new h2 z1 o1) h3
  rw [r1, r2, ← hh] at k2
  exact k2
theorem gx_newarray (hC : hOk z n0 X cc own nL d nm) {atype : ArrayType} (hd : decode cc pc = .ok (.newarray atype, 2)) {a : Nat} (ha : a = 1 ∧ atype = .int ∨ a = 2 ∧ atype = .boolean ∨ a = 3 ∧ atype = .char) (hty : ty n = (a, len)) (hw : Cond.arrayClass (newarray.typeOf atype) ∈ hgd) (hn : n + 1 ≤ nm) (hM : ∀ k, k < len → M n k = 0)
    (hx : x = nI len) (hlen : len < 1000)
    (kk : hG z n0 X (n + 1) M R (pc + 2) L (.ref (z.1 + n) :: st)) : hG z n0 X n M R pc L (.int x :: st) := by
  intro H locs ls h1 h2 h3
  subst hx
  obtain ⟨r1, r2, r3, r4⟩ := slt_room hC (hn_le hC h1 h2) hn
  have ha0 : a ≠ 0 := by rcases ha with h | h | h <;> omega
  have hsz : tsz (ty n) = len := by rw [hty]; simp [tsz, ha0]
  rw [hsz] at r2 r4
  have hh : H.size = z.1 + n := h1.2.1
  refine va_newaK (N := len) hC.1 hC.2.1 (hC.2.2.2.2.1 _ hw) rfl hd rfl (nI_pos (by omega)) (nI_clamp (by omega)) (by
    rcases ha with ⟨-, rfl⟩ | ⟨-, rfl⟩ | ⟨-, rfl⟩ <;> simp [newarray.typeOf, componentBytes] <;> omega) r3 r4 rfl fun H1 cA e1 z1 o1 _ hNm => ?_
  have k2 := kk H1 locs ls (Hp_new h1 (by
    rw [ent_ar hty ha0 (by rcases ha with h | h | h <;> omega)]
    rw [hh] at e1
    have hK := hC.2.2.2.2.2.1.1.2
    show H1[z.1 + n]? = some (vp_cell _ _)
    rw [e1, vp_cell_i]
    have hcA : cA = z.2.2.2 a := by
      rcases ha with ⟨rfl, rfl⟩ | ⟨rfl, rfl⟩ | ⟨rfl, rfl⟩
      · exact Option.some.inj (hNm.symm.trans (hK 0 _ tyl_at1).2)
      · exact Option.some.inj (hNm.symm.trans (hK 1 _ tyl_at2).2)
      · exact Option.some.inj (hNm.symm.trans (hK 2 _ tyl_at3).2)
    subst hcA
    have hdv : defaultValue (newarray.typeOf atype) = .int 0 := by rcases ha with ⟨-, rfl⟩ | ⟨-, rfl⟩ | ⟨-, rfl⟩ <;> rfl
    rw [hdv]
    unfold arrV
    congr 2
    apply Array.ext_getElem?
    intro j
    simp only [Array.getElem?_ofFn]
    split
    · next h => rw [hM j h]
    · rfl) z1 o1 (by
    rw [hty]
    refine ⟨fun t => absurd t ha0, fun t k hk => Or.inl (hM k hk), fun t k hk => ⟨0, by decide, (hM k hk).trans rfl⟩⟩)) (va_S_new h2 z1 o1) h3
  rw [r1, r2, ← hh] at k2
  exact k2
theorem gx_anewarray (hC : hOk z n0 X cc own nL d nm) (hd : decode cc pc = .ok (.anewarray idx, 3)) {a : Nat} {C : String} (ha : a = 4 ∧ C = RX0 ∨ a = 5 ∧ C = RX4) (hty : ty n = (a, len)) (hw : Cond.classLink own idx C ∈ hgd) (hn : n + 1 ≤ nm) (hM : ∀ k, k < len → R n k = 0)
    (hx : x = nI len) (hlen : len < 1000)
    (kk : hG z n0 X (n + 1) M R (pc + 3) L (.ref (z.1 + n) :: st)) : hG z n0 X n M R pc L (.int x :: st) := by
  intro H locs ls h1 h2 h3
  subst hx
  obtain ⟨r1, r2, r3, r4⟩ := slt_room hC (hn_le hC h1 h2) hn
  have ha0 : a ≠ 0 := by rcases ha with h | h <;> omega
  have hsz : tsz (ty n) = len := by rw [hty]; simp [tsz, ha0]
  rw [hsz] at r2 r4
  have hh : H.size = z.1 + n := h1.2.1
  have hcl3 : (nI len).toNatClampNeg = len := nI_clamp (by omega)
  have hover : va_AO C X.1.2.2.2.2.1 := by
    rcases ha with ⟨-, rfl⟩ | ⟨-, rfl⟩
    · exact hC.2.2.2.2.2.1.2.2.2.1
    · exact hC.2.2.2.2.2.1.2.2.2.2
  refine W.anew hC.1 hC.2.1 hC.2.2.2.1 (hC.2.2.2.2.1 _ hw) (va_AO.use hover) rfl hd rfl (nI_pos (by omega)) (by rw [hcl3]; omega) r3 (by rw [hcl3]; exact r4) fun cA kA comp f1 f2 f3 f4 => ?_
  rw [hcl3]
  generalize hH1 : H.push ({ cls := cA, slots := Array.replicate len .null, vm := .none } : Cell) = H1
  have z1 : H1.size = H.size + 1 := by rw [← hH1, Array.size_push]
  have e1 : H1[H.size]? = some (arrV cA len (fun _ => .null)) := by rw [← hH1, Array.getElem?_push_size, ← arrV_new]
  have o1 : ∀ q : Nat, q < H.size → H1[q]? = H[q]? := fun q hq => by rw [← hH1, Array.getElem?_push, if_neg (Nat.ne_of_lt hq)]
  have k2 := kk H1 locs ls (Hp_new h1 (by
    rw [ent_rf hty (by rcases ha with h | h <;> omega)]
    rw [hh] at e1
    have hK := hC.2.2.2.2.2.1.1.2
    show H1[z.1 + n]? = some (vp_cell _ _)
    rw [e1, vp_cell_q]
    have hcA : cA = z.2.2.2 a := by
      rcases ha with ⟨rfl, rfl⟩ | ⟨rfl, rfl⟩
      · obtain ⟨kA', comp', g1, g2, g3, g4⟩ := (hK 3 _ tyl_at4).2
        exact Option.some.inj (f1.symm.trans g4)
      · obtain ⟨kA', comp', g1, g2, g3, g4⟩ := (hK 4 _ tyl_at5).2
        exact Option.some.inj (f1.symm.trans g4)
    subst hcA
    unfold arrV
    congr 2
    apply Array.ext_getElem?
    intro j
    simp only [Array.getElem?_ofFn]
    split
    · next h => rw [hM j h]; rfl
    · rfl) z1 o1 (by
    rw [hty]
    have hb : a = 4 ∨ a = 5 := by rcases ha with h | h <;> omega
    exact ⟨fun t => absurd t ha0, fun t => by simp only at t; omega, fun t => by simp only at t; omega⟩)) (va_S_new h2 z1 o1) h3
  rw [r1, r2, ← hh] at k2
  exact k2
/-- a final field, in a constructor -/
theorem gx_putF (hC : hOk z n0 X cc own nL d nm) (hd : decode cc pc = .ok (.putfield idx, 3)) (hF : hFl own idx ci k) (hat : hAt n i (0, ci)) (hnf : hFin ci k) (hin : X.2.1.2.1.name = "<init>") (hown : ∃ T N, hcl[ci]? = some (own, T, N)) (hw : sv z (sty ci k) x o = w)
    (hb : sty ci k = 1 → x = 0 ∨ x = 1) (hc : sty ci k = 2 → ∃ q, q < 65536 ∧ x = nI q)
    (kk : hG z n0 X n (up2 M i k x) (up2 R i k o) (pc + 3) L st) : hG z n0 X n M R pc L (w :: .ref (z.1 + i) :: st) := by
  intro H locs ls h1 h2 h3
  subst hw
  obtain ⟨C, T, N, tt, f1, f2, f3, f4, f5, f6, f7, f8, g0, g1, g2, g3, g4⟩ := hF
  have hfin : (T k).2.2.2 = true := by
    obtain ⟨C', T', N', e1, e2⟩ := hnf
    cases f1.symm.trans e1
    exact e2
  have hCo : C = own := by
    obtain ⟨T', N', e1⟩ := hown
    cases f1.symm.trans e1
    rfl
  have hcell := wl_at (z := z) (M := M) (R := R) hat.1
  rw [ent_ob hat.2] at hcell
  have hkN : k < hN ci := by rw [← f2]; exact f3
  have hfit := put_fit (z := z) (x := x) (o := o) g0 g1 g2 g3 g4 (sty_lt _ _) hb hc
  refine va_putF (own := own) (ref := C) hC.1 hC.2.1 hC.2.2.2.2.1 f5 tt f7 f8 hC.2.2.2.1 hC.2.2.2.2.2.1.1 h1.1 wl_D h2 i hcell f1 k f3 (hC.2.2.2.2.1 _ f4) (fun x h => by rw [f6] at h; exact h)
    hfin hin (f6.trans hCo) (ty := tt k) (v := sv z (sty ci k) x o) (f7 k f3) hfit.1 hfit.2 (by simpa [obv] using hkN) hd (fun H1 locs1 hP _ hS => ?_)
  have he : (wl z n M R).set i (z.1 + i, .inr (ci, (obv z ci (M i) (R i)).set k (sv z (sty ci k) x o))) = wl z n (up2 M i k x) (up2 R i k o) := by
    refine wl_set hat.1 ?_ (fun j hj => ⟨up2_row hj, up2_row hj⟩)
    rw [ent_ob hat.2, obv_set hkN (by rw [up2_same, up2_same]) (fun j hj => ⟨up2_off (fun q => hj q.2), up2_off (fun q => hj q.2)⟩)]
  rw [he] at hP
  refine W_size hC.2.2.2.2.2.2.2.2.1 (hn_le hC h1 h2) rfl hP hS (fun hsz => ?_)
  exact kk H1 locs1 ls ⟨hP, hsz, Wf_up h1.2.2 (fun _ => by rw [hat.2]; exact ⟨hb, hc⟩) (fun t => by rw [hat.2] at t; cases t) (fun t => by rw [hat.2] at t; cases t)⟩ hS h3
theorem gx_objinit (hC : hOk z n0 X cc own nL d nm) (hd : decode cc pc = .ok (.invokespecial idx, 3)) (hl : Cond.methodLink own idx objectInit ∈ hgd) (hi : Cond.instanceMethod objectInit ∈ hgd) (hcd : Cond.code objectInit ⟨#[0xb1]⟩ 1 none ∈ hgd) (hdp : 1 ≤ d) (hL : L.length = nL)
    (kk : hG z n0 X n M R (pc + 3) L []) : hG z n0 X n M R pc L [.ref (z.1 + i)] := by
  intro H locs ls h1 h2 h3
  have a1 := hC.2.2.2.2.2.2.1
  have a2 := hC.2.2.2.2.2.2.2.1
  refine W.objInit hC.1 hC.2.1 hC.2.2.2.1 (hC.2.2.2.2.1 _ hl) (hC.2.2.2.2.1 _ hi) (hC.2.2.2.2.1 _ hcd) rfl (by show ls.size = _; rw [h3.1, hL, hC.2.2.1]) rfl hd (by omega) (by
    have e : 2 * (F0 X.1.2.2.2.2.2.1 pc ls [.ref (z.1 + i)]).monitorRoom + (([] : List Value).map fun v => v.category).sum ≤ 8 := lv_room (by simp)
    omega) (kk H locs ls h1 h2 h3)
theorem hWo (hC : hOk z n0 X cc own nL d nm) {H : Heap} {locs : List Loc} (h1 : Hp z n M R H) (h2 : va_S (hA z) X.1.2.2.2.2.1.heap H locs) (t : State) (ht : t.heap = H) (hW : X.1.2.2.2.2.1.WarmedH t.vm) : Wo z n M R t := by
  refine ⟨?_, by rw [ht]; exact h1⟩
  rw [ht]
  exact (Fx.kept (fun a ha1 ha2 => h2.2.1 a ha1 ha2) hC.2.2.2.2.2.1).warm hW
theorem gx_after {yd : hYd} {As : List Value} {mc ms : Nat} {g0 : JFrame} {aa : Array Value} {H : Heap} {locs : List Loc} {ls : Array Slot} {st0 : List Value} (hg0 : g0 = F0 X.1.2.2.2.2.2.1 pc ls st0)
    (hr : va_Run X.1.1 X.1.2.1 X.1.2.2.1 X.1.2.2.2.1 X.1.2.2.2.2.1 X.1.2.2.2.2.2.1 X.1.2.2.2.2.2.2 X.2.1.1 X.2.1.2.1 X.2.1.2.2 H locs (n - n0) (slt n - slt n0) (n2 - n) (slt n2 - slt n) g0 st (hQc z n2 vo M' R' aa) (hA z))
    (h2 : va_S (hA z) X.1.2.2.2.2.1.heap H locs) (h0 : n0 ≤ n) (hn2 : n ≤ n2) (h3 : lh ls L)
    (kk : hG z n0 X n2 M' R' (pc + 3) L (vo.toList ++ st)) : Wx X H locs (n - n0) (slt n - slt n0) g0 := by
  subst hg0
  intro T hT Y
  obtain ⟨v, st₀, t, T', L9, e0, Y', hL9, e1, e2, ⟨hv, hwo, hF⟩, hs⟩ := hr T hT Y
  cases hv
  have hm1 := slt_mono h0
  have hm2 := slt_mono hn2
  have c1 : n - n0 + (n2 - n) = n2 - n0 := by omega
  have c2 : slt n - slt n0 + (slt n2 - slt n) = slt n2 - slt n0 := by omega
  rw [c1, c2] at Y'
  have hS : va_S (hA z) X.1.2.2.2.2.1.heap T'.heap (locs ++ L9) := by
    rw [e1]
    unfold va_F at hF
    rw [e0] at hF
    refine ⟨Nat.le_trans h2.1 hF.1, fun q q1 q2 => (hF.2 q (Nat.lt_of_lt_of_le q1 h2.1) q2).trans (h2.2.1 q q1 q2), fun q hq => ?_⟩
    rcases List.mem_append.mp hq with h | h
    · exact h2.2.2 q h
    · exact hL9 q h
  obtain ⟨t2, a1, b1⟩ := kk T'.heap (locs ++ L9) ls (by rw [e1]; exact hwo.2) hS h3 T' rfl Y'
  exact ⟨t2, hs t2 a1, b1⟩
theorem hRoomOk {yd : hYd} (hC : hOk z n0 X cc own nL d nm) (hY : hYk yd np) (hdp : yd.2.2.2.2 + 1 ≤ d) : yd.2.2.2.2 + 1 ≤ X.1.2.2.2.1.frames ∧ 8 + (yd.2.2.1 + 11) + 34 * yd.2.2.2.2 ≤ X.1.2.2.2.1.locals := by
  have a1 := hC.2.2.2.2.2.2.1
  have a2 := hC.2.2.2.2.2.2.2.1
  have a3 := hY.2.2.2.2
  omega
theorem hCellOk (hC : hOk z n0 X cc own nL d nm) (h0 : n0 ≤ n) (hn2 : n ≤ n2) (hnm : n2 ≤ nm) : n - n0 + (n2 - n) ≤ X.1.2.2.2.1.cells ∧ slt n - slt n0 + (slt n2 - slt n) ≤ X.1.2.2.2.1.slots := by
  have a1 := slt_mono h0
  have a2 := slt_mono hn2
  have a3 := slt_mono hnm
  have a4 := hC.2.2.2.2.2.2.2.2.2.2.1
  have a5 := hC.2.2.2.2.2.2.2.2.2.2.2
  omega
theorem hCallB {yd : hYd} (hC : hOk z n0 X cc own nL d nm) (hY : hYk yd np) (hdp : yd.2.2.2.2 + 1 ≤ d) (hl : Cond.methodLink own idx yd.1 ∈ hgd) {mc ms : Nat} :
    CallB X.1.2.2.2.1 X.1.2.2.2.2.1 X.1.2.2.2.2.2.2 own idx yd.1 yd.2.1 yd.2.2.1 yd.2.2.2.1 (hws yd) (hrm yd mc ms) mc ms np := by
  obtain ⟨r1, r2⟩ := hRoomOk hC hY hdp
  refine ⟨rfl, rfl, r1, r2, pay_in hC.2.2.2.2.1 (hgd_good yd hY.1), List.mem_cons_self, hC.2.2.2.2.1 _ hY.1, hC.2.2.2.2.1 _ hY.2.1, hY.2.2.1, fun sig h => ?_, hC.2.2.2.2.1 _ hl⟩
  have h2 := hY.2.2.2.1
  rw [h] at h2
  exact (Option.some.inj h2).symm
theorem gx_callV (hC : hOk z n0 X cc own nL d nm) {yd : hYd} {As : List Value} (hd : decode cc pc = .ok (.invokevirtual idx, 3)) (hct : hCt X.1.2.1 z yd (.ref (z.1 + i) :: As) n M R n2 vo M' R') (hY : hYk yd np) (hV : hYv yd) (hl : Cond.methodLink own idx yd.1 ∈ hgd)
    (hat : hAt n i (0, ci)) (hrc : (hcl[ci]?).map (fun q => q.1) = some yd.1.cls) (hdp : yd.2.2.2.2 + 1 ≤ d) (hnp : As.length = np) (hL : L.length = nL) (hst : st' = As.reverse ++ .ref (z.1 + i) :: st) (hcat : (st.map fun v => v.category).sum ≤ 8) (hn2 : n ≤ n2) (hnm : n2 ≤ nm)
    (kk : hG z n0 X n2 M' R' (pc + 3) L (vo.toList ++ st)) : hG z n0 X n M R pc L st' := by
  intro H locs ls h1 h2 h3
  subst hst
  have h0 := hn_le hC h1 h2
  have hcell := wl_at (z := z) (M := M) (R := R) hat.1
  rw [ent_ob hat.2] at hcell
  obtain ⟨q9, hq9, hq8⟩ := Option.map_eq_some_iff.mp hrc
  have hrecv := va_recv hC.2.2.2.2.2.1.1 h1.1 hq9 hcell
  rw [hq8] at hrecv
  exact gx_after (yd := yd) (As := As) (mc := 0) (ms := 0) rfl (va_runV (C := yd.1.cls) (As := As) (rest := st) (n := np) ⟨hC.1, hC.2.1, hC.2.2.1, hC.2.2.2.1, hC.2.2.2.2.1⟩ hct ⟨hCallB hC hY hdp hl, hC.2.2.2.2.1 _ hV.1, hC.2.2.2.2.1 _ hV.2⟩
    ⟨Wo.blind, hrecv, fun U hU hW => ⟨rfl, hWo hC h1 h2 U hU hW⟩⟩ rfl hnp (by show ls.size = _; rw [h3.1, hL]) rfl (lv_room hcat) hd (hCellOk hC h0 hn2 hnm)) h2 h0 hn2 h3 kk
theorem gx_callS (hC : hOk z n0 X cc own nL d nm) {yd : hYd} {As : List Value} (hd : decode cc pc = .ok (.invokestatic idx, 3)) (hct : hCt X.1.2.1 z yd As n M R n2 vo M' R') (hY : hYk yd np) (hV : Cond.static yd.1 ∈ hgd) (hl : Cond.methodLink own idx yd.1 ∈ hgd)
    (hdp : yd.2.2.2.2 + 1 ≤ d) (hnp : As.length = np) (hL : L.length = nL) (hst : st' = As.reverse ++ st) (hcat : (st.map fun v => v.category).sum ≤ 8) (hn2 : n ≤ n2) (hnm : n2 ≤ nm)
    (kk : hG z n0 X n2 M' R' (pc + 3) L (vo.toList ++ st)) : hG z n0 X n M R pc L st' := by
  intro H locs ls h1 h2 h3
  subst hst
  have h0 := hn_le hC h1 h2
  exact gx_after (yd := yd) (As := As) (mc := 0) (ms := 0) rfl (va_runS (As := As) (rest := st) (n := np) ⟨hC.1, hC.2.1, hC.2.2.1, hC.2.2.2.1, hC.2.2.2.2.1⟩ hct ⟨hCallB hC hY hdp hl, hC.2.2.2.2.1 _ hV⟩
    ⟨Wo.blind, fun U hU hW => ⟨rfl, hWo hC h1 h2 U hU hW⟩⟩ rfl hnp (by show ls.size = _; rw [h3.1, hL]) rfl (lv_room hcat) hd (hCellOk hC h0 hn2 hnm)) h2 h0 hn2 h3 kk
theorem gx_callI (hC : hOk z n0 X cc own nL d nm) {nmY : MethodName} {bcY : ByteArray} {mlY dY : Nat} {As : List Value} (hd : decode cc pc = .ok (.invokespecial idx, 3)) (hct : hCt X.1.2.1 z (nmY, bcY, mlY, none, dY) (.ref (z.1 + i) :: As) n M R n2 vo M' R') (hY : hYk (nmY, bcY, mlY, none, dY) np) (hV : Cond.instanceMethod nmY ∈ hgd) (hnm1 : nmY.name = "<init>") (hl : Cond.methodLink own idx nmY ∈ hgd)
    (hdp : dY + 1 ≤ d) (hnp : As.length = np) (hL : L.length = nL) (hst : st' = As.reverse ++ .ref (z.1 + i) :: st) (hcat : (st.map fun v => v.category).sum ≤ 8) (hn2 : n ≤ n2) (hnm : n2 ≤ nm)
    (kk : hG z n0 X n2 M' R' (pc + 3) L (vo.toList ++ st)) : hG z n0 X n M R pc L st' := by
  intro H locs ls h1 h2 h3
  subst hst
  have h0 := hn_le hC h1 h2
  exact gx_after (yd := (nmY, bcY, mlY, none, dY)) (As := As) (mc := 0) (ms := 0) rfl (va_runI (As := As) (rest := st) (n := np) ⟨hC.1, hC.2.1, hC.2.2.1, hC.2.2.2.1, hC.2.2.2.2.1⟩ hct ⟨hCallB (yd := (nmY, bcY, mlY, none, dY)) hC hY hdp hl, hnm1, hC.2.2.2.2.1 _ hV⟩
    ⟨Wo.blind, fun U hU hW => ⟨rfl, hWo hC h1 h2 U hU hW⟩⟩ rfl hnp (by show ls.size = _; rw [h3.1, hL]) rfl (lv_room hcat) hd (hCellOk hC h0 hn2 hnm)) h2 h0 hn2 h3 kk
/-- the private constructor of a nest mate -/
theorem gx_callIN (hC : hOk z n0 X cc own nL d nm) {bcY : ByteArray} {mlY dY : Nat} {As : List Value} (hd : decode cc pc = .ok (.invokespecial 35, 3)) (how : own = RX6) (hct : hCt X.1.2.1 z (yX5_init, bcY, mlY, none, dY) (.ref (z.1 + i) :: As) n M R n2 vo M' R') (hY : hYk (yX5_init, bcY, mlY, none, dY) np) (hV : Cond.instanceMethod yX5_init ∈ hgd)
    (hdp : dY + 1 ≤ d) (hnp : As.length = np) (hL : L.length = nL) (hst : st' = As.reverse ++ .ref (z.1 + i) :: st) (hcat : (st.map fun v => v.category).sum ≤ 8) (hn2 : n ≤ n2) (hnm : n2 ≤ nm)
    (kk : hG z n0 X n2 M' R' (pc + 3) L (vo.toList ++ st)) : hG z n0 X n M R pc L st' := by
  intro H locs ls h1 h2 h3
  subst hst
  subst how
  have h0 := hn_le hC h1 h2
  obtain ⟨r1, r2⟩ := hRoomOk (yd := (yX5_init, bcY, mlY, none, dY)) hC hY hdp
  exact gx_after (yd := (yX5_init, bcY, mlY, none, dY)) (As := As) (mc := 0) (ms := 0) rfl (va_runIN (As := As) (rest := st) (n := np) (host := RX6) ⟨hC.1, hC.2.1, hC.2.2.1, hC.2.2.2.1, hC.2.2.2.2.1⟩ hct
    ⟨⟨⟨rfl, rfl, r1, r2, pay_in hC.2.2.2.2.1 (hgd_good (yX5_init, bcY, mlY, none, dY) hY.1), List.mem_cons_self⟩, hC.2.2.2.2.1 _ hY.1, hC.2.2.2.2.1 _ hY.2.1, hY.2.2.1, fun sig h => by
      have h2 := hY.2.2.2.1
      rw [h] at h2
      exact (Option.some.inj h2).symm, va_Nw.use rfl hC.2.2.2.2.2.1.2.2.1⟩, rfl, hC.2.2.2.2.1 _ hV⟩
    ⟨Wo.blind, fun U hU hW => ⟨rfl, hWo hC h1 h2 U hU hW⟩⟩ rfl hnp (by show ls.size = _; rw [h3.1, hL]) rfl (lv_room hcat) hd (hCellOk hC h0 hn2 hnm)) h2 h0 hn2 h3 kk
/-! ends -/
theorem hEnd (hC : hOk z n0 X cc own nL d nm) {H : Heap} {locs : List Loc} (h1 : Hp z n M R H) (h2 : va_S (hA z) X.1.2.2.2.2.1.heap H locs) : ∀ t : State, t.heap = H → X.1.2.2.2.2.1.WarmedH t.vm → hQc z n vo M R X.1.2.2.2.2.2.2 X.1.2.2.2.2.1 (.returned vo) t :=
  fun t ht hW => ⟨rfl, hWo hC h1 h2 t ht hW, h2.F ht⟩
theorem gx_iret (hC : hOk z n0 X cc own nL d nm) (hQ : hRq z n0 X n vo M2 R2 (some .int)) (hd : decode cc pc = .ok (.ireturn, 1)) (hv : some (.int x) = vo) (hM : M = M2) (hR : R = R2) : hG z n0 X n M R pc L [.int x] := by
  intro H locs ls h1 h2 h3
  subst hv hM hR
  unfold Wx
  rw [hQ.1]
  exact W.iret hC.1 hC.2.1 hQ.2.1 (hEnd hC h1 h2) h2.2.2 hd hQ.2.2
theorem gx_zret (hC : hOk z n0 X cc own nL d nm) (hQ : hRq z n0 X n vo M2 R2 (some .boolean)) (hd : decode cc pc = .ok (.ireturn, 1)) (hb : x = 0 ∨ x = 1) (hv : some (.int x) = vo) (hM : M = M2) (hR : R = R2) : hG z n0 X n M R pc L [.int x] := by
  intro H locs ls h1 h2 h3
  subst hv hM hR
  unfold Wx
  rw [hQ.1]
  exact W.zret hC.1 hC.2.1 hQ.2.1 (by rcases hb with rfl | rfl <;> rfl) (hEnd hC h1 h2) h2.2.2 hd hQ.2.2
theorem gx_cret (hC : hOk z n0 X cc own nL d nm) (hQ : hRq z n0 X n vo M2 R2 (some .char)) (hd : decode cc pc = .ok (.ireturn, 1)) (hb : ∃ q, q < 65536 ∧ x = nI q) (hv : some (.int x) = vo) (hM : M = M2) (hR : R = R2) : hG z n0 X n M R pc L [.int x] := by
  intro H locs ls h1 h2 h3
  subst hv hM hR
  unfold Wx
  rw [hQ.1]
  exact W.zret hC.1 hC.2.1 hQ.2.1 (by obtain ⟨q, hq, rfl⟩ := hb; exact (pk_charN hq).1) (hEnd hC h1 h2) h2.2.2 hd hQ.2.2
theorem gx_lret (hC : hOk z n0 X cc own nL d nm) {a : Int64} (hQ : hRq z n0 X n vo M2 R2 (some .long)) (hd : decode cc pc = .ok (.lreturn, 1)) (hv : some (.long a) = vo) (hM : M = M2) (hR : R = R2) : hG z n0 X n M R pc L [.long a] := by
  intro H locs ls h1 h2 h3
  subst hv hM hR
  unfold Wx
  rw [hQ.1]
  exact W.lret hC.1 hC.2.1 hQ.2.1 (hEnd hC h1 h2) h2.2.2 hd hQ.2.2
theorem gx_vret (hC : hOk z n0 X cc own nL d nm) (hQ : hRq z n0 X n none M2 R2 none) (hd : decode cc pc = .ok (.return_, 1)) (hM : M = M2) (hR : R = R2) : hG z n0 X n M R pc L [] := by
  intro H locs ls h1 h2 h3
  subst hM hR
  unfold Wx
  rw [hQ.1]
  exact W.vret hC.1 hC.2.1 hQ.2.1 (hEnd hC h1 h2) h2.2.2 hd hQ.2.2
theorem gx_aret (hC : hOk z n0 X cc own nL d nm) {cn : String} (hQ : hRq z n0 X n vo M2 R2 (some (.object cn))) (hd : decode cc pc = .ok (.areturn, 1)) (hw : isR w) (hv : some w = vo) (hM : M = M2) (hR : R = R2) : hG z n0 X n M R pc L [w] := by
  intro H locs ls h1 h2 h3
  subst hv hM hR
  unfold Wx
  rw [hQ.1]
  exact W.aret hC.1 hC.2.1 hQ.2.1 (Or.inl ⟨_, rfl⟩) hw (hEnd hC h1 h2) h2.2.2 hd hQ.2.2
end HC
/-! the start -/
theorem lh_entry (av : List Value) {mL : Nat} (h1 : ∀ v ∈ av, v.category = 1) (hlen : av.length ≤ mL) :
    lh ((lg_sl av ++ List.replicate (mL - (lg_sl av).length) Slot.unset).toArray) (av.map some ++ List.replicate (mL - av.length) none) := by
  have e : lg_sl av = av.map Slot.val := by
    unfold lg_sl
    clear hlen
    induction av with
    | nil => rfl
    | cons a t ih =>
      rw [List.flatMap_cons, ih (fun v hv => h1 v (List.mem_cons_of_mem _ hv)), if_neg (by rw [h1 a List.mem_cons_self]; decide)]
      rfl
  have hl := lv_entry av (n := mL) (by rw [e, List.length_map]; exact hlen)
  refine ⟨by rw [hl.1]; simp; omega, hl.2.1, fun i v hv => ?_⟩
  rw [e]
  by_cases hi : i < av.length
  · rw [List.getElem?_append_left (by simpa using hi), List.getElem?_map] at hv
    rw [List.getElem?_toArray, List.getElem?_append_left (by simpa using hi), List.getElem?_map]
    cases h : av[i]? with
    | none => rw [h] at hv; cases hv
    | some u => rw [h] at hv; cases hv; rfl
  · rw [List.getElem?_append_right (by simpa using Nat.le_of_not_lt hi), List.getElem?_replicate] at hv
    split at hv <;> cases hv
theorem hs_start {l : Launch} {z : hZt} {yd : hYd} {av : List Value} {n : Nat} {M : hMem} {R : hRef} {n2 : Nat} {vo : Option Value} {M2 : hMem} {R2 : hRef} (L : List (Option Value)) (hp : plainName yd.1.cls = true) (hL : av.map some ++ List.replicate (yd.2.2.1 - av.length) none = L) (hcat : ∀ v ∈ av, v.category = 1) (hlen : av.length ≤ yd.2.2.1) (hn : n ≤ n2)
    (body : ∀ X : hXt, X.1.2.1 = l → X.2.1.2.1.name = yd.1.name → hOk z n X yd.2.1 yd.1.cls yd.2.2.1 yd.2.2.2.2 n2 → hRq z n X n2 vo M2 R2 yd.2.2.2.1 → hG z n X n M R 0 L []) : hCt l z yd av n M R n2 vo M2 R2 := by
  refine Met.ofW (cc := yd.2.1) (maxL := yd.2.2.1) (ret := yd.2.2.2.1) hp rfl ?_
  intro p e s m args below meth c s₁ B hml hv
  obtain ⟨rfl, hfx, hp1⟩ := hv
  have hts := atoms_spec (ws := hws yd) B.pre
  have hX := body ((p, l, e, (headSpec (hws yd) (hrm yd (n2 - n) (slt n2 - slt n))).room, s, m, av.toArray), (below, meth, c), MQ below (hQc z n2 vo M2 R2) av.toArray s (n2 - n) (slt n2 - slt n) (hA z)) rfl
    (name_of_methodNamed B.named B.method).1
    ⟨B.exec, B.bytes, hml, findClass_of_methodNamed B.named, fun w hw => hts w (List.mem_cons_of_mem _ hw), hfx, Nat.le_refl _, Nat.le_refl _, hp1.2.1, hn, Nat.le_refl _, Nat.le_refl _⟩ ⟨rfl, B.returns, B.notSynchronized⟩
  have hl := lh_entry av hcat hlen
  rw [hL] at hl
  rw [lg_entry_eq]
  have h := hX s.heap [] _ hp1 va_S.rf hl
  rw [Nat.sub_self, Nat.sub_self] at h
  exact h
