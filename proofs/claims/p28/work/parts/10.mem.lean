/-! the memory's rows: fields, arrays, constants -/
theorem wl_get {z : hZt} {n : Nat} {M : hMem} {R : hRef} {k : Nat} {q : Nat × va_E} (h : (wl z n M R)[k]? = some q) : k < n ∧ q = (z.1 + k, ent z (ty k) (M k) (R k)) := by
  have hl : k < n := by
    have := (List.getElem?_eq_some_iff.mp h).1
    simpa [wl] using this
  refine ⟨hl, ?_⟩
  simp only [wl, List.getElem?_map, List.getElem?_range hl, Option.map_some, Option.some.injEq] at h
  exact h.symm
theorem wl_at {z : hZt} {n : Nat} {M : hMem} {R : hRef} {i : Nat} (h : i < n) : (wl z n M R)[i]? = some (z.1 + i, ent z (ty i) (M i) (R i)) := by
  simp [wl, List.getElem?_map, List.getElem?_range h]
theorem wl_len {z : hZt} {n : Nat} {M : hMem} {R : hRef} : (wl z n M R).length = n := by simp [wl]
theorem wl_set {z : hZt} {n : Nat} {M M' : hMem} {R R' : hRef} {i : Nat} {e : va_E} (h : i < n) (he : ent z (ty i) (M' i) (R' i) = e) (ho : ∀ j, j ≠ i → M' j = M j ∧ R' j = R j) :
    (wl z n M R).set i (z.1 + i, e) = wl z n M' R' := by
  apply List.ext_getElem?
  intro k
  by_cases hk : k = i
  · subst hk
    rw [List.getElem?_set_self (by rw [wl_len]; exact h), wl_at h, he]
  · rw [List.getElem?_set_ne (Ne.symm hk)]
    by_cases hkn : k < n
    · rw [wl_at hkn, wl_at hkn, (ho k hk).1, (ho k hk).2]
    · rw [List.getElem?_eq_none (by rw [wl_len]; omega), List.getElem?_eq_none (by rw [wl_len]; omega)]
theorem wl_D {z : hZt} {n : Nat} {M : hMem} {R : hRef} : va_D (hA z) (wl z n M R) := by
  refine ⟨fun i j p q hi hj e => ?_, fun k q hk => ?_⟩
  · rw [(wl_get hi).2, (wl_get hj).2] at e
    simp only at e
    omega
  · rw [(wl_get hk).2]
    show z.1 ≤ z.1 + k
    omega
theorem Fx.warm {z : hZt} {s U : State} {H : Heap} (hW : s.WarmedH U.vm) (h : Fx z s H) : Fx z U H :=
  ⟨h.1.moved hW.alike, h.2.1.moved hW.alike, h.2.2.1.warmM hW, h.2.2.2.1.moved hW.alike, h.2.2.2.2.moved hW.alike⟩
theorem Fx.kept {z : hZt} {U : State} {H H1 : Heap} (hq : ∀ a : Nat, a < H.size → ¬ hA z a → H1[a]? = H[a]?) (h : Fx z U H) : Fx z U H1 := ⟨h.1, h.2.1.kept hq, h.2.2⟩
theorem Fx.calling {z : hZt} {U : State} {H : Heap} (g : JFrame) (mk : MethodId) (a : Array Value) (h : Fx z U H) : Fx z (U.calling g mk a) H :=
  ⟨va_K.moved (u := U) (U := U.calling g mk a) (Vm.Alike.refl U.vm) h.1, va_En.moved (u := U) (U := U.calling g mk a) (Vm.Alike.refl U.vm) h.2.1, va_Nw.same (u := U) (U := U.calling g mk a) rfl rfl h.2.2.1,
    va_AO.moved (u := U) (U := U.calling g mk a) (Vm.Alike.refl U.vm) h.2.2.2.1, va_AO.moved (u := U) (U := U.calling g mk a) (Vm.Alike.refl U.vm) h.2.2.2.2⟩
theorem Wo.blind {z : hZt} {av : List Value} {n : Nat} {M : hMem} {R : hRef} : FrameBlind (va_Pc av (Wo z n M R)) := fun a U g mk q => ⟨q.1, Fx.calling g mk a q.2.1, q.2.2⟩
/-- a field of a class of ours: its place in the table, its link -/
def hFl (own : String) (idx ci k : Nat) : Prop := ∃ (C : String) (T : u_T) (N : Nat) (tt : Nat → FieldType), hcl[ci]? = some (C, T, N) ∧ N = hN ci ∧ k < N ∧ Cond.fieldLink own idx C (T k).2.1 (T k).2.2.1 ∈ hgd ∧ (∀ w ∈ u_ws C T N, w ∈ hgd) ∧
  (T k).1 = C ∧ (∀ j, j < N → parseFieldDescriptor (T j).2.2.1 = some (tt j)) ∧ (∀ a, a < N → ∀ b, b < N → a ≠ b → (T a).2.1 ≠ (T b).2.1) ∧
  (sty ci k = 0 → tt k = .int) ∧ (sty ci k = 1 → tt k = .boolean) ∧ (sty ci k = 2 → tt k = .char) ∧ (sty ci k = 3 → tt k = .object "HoldingStack$Kind") ∧ (sty ci k = 4 → (∃ c, tt k = .object c) ∨ ∃ c, tt k = .array c)
def hFin (ci k : Nat) : Prop := ∃ (C : String) (T : u_T) (N : Nat), hcl[ci]? = some (C, T, N) ∧ (T k).2.2.2 = true
def hNfin (ci k : Nat) : Prop := ∃ (C : String) (T : u_T) (N : Nat), hcl[ci]? = some (C, T, N) ∧ (T k).2.2.2 = false
theorem obv_at {z : hZt} {ci k : Nat} {f : Nat → Int32} {r : Nat → Nat} (hk : k < hN ci) : (obv z ci f r)[k]? = some (sv z (sty ci k) (f k) (r k)) := by
  simp [obv, List.getElem?_map, List.getElem?_range hk]
theorem obv_set {z : hZt} {ci k : Nat} {f f' : Nat → Int32} {r r' : Nat → Nat} {w : Value} (hk : k < hN ci) (hw : sv z (sty ci k) (f' k) (r' k) = w) (ho : ∀ j, j ≠ k → f' j = f j ∧ r' j = r j) :
    (obv z ci f r).set k w = obv z ci f' r' := by
  apply List.ext_getElem?
  intro j
  by_cases hj : j = k
  · subst hj
    rw [List.getElem?_set_self (by simpa [obv] using hk), obv_at hk, hw]
  · rw [List.getElem?_set_ne (Ne.symm hj)]
    by_cases hjn : j < hN ci
    · rw [obv_at hjn, obv_at hjn, (ho j hj).1, (ho j hj).2]
    · rw [List.getElem?_eq_none (by simp [obv]; omega), List.getElem?_eq_none (by simp [obv]; omega)]
def hAt (n i : Nat) (t : Nat × Nat) : Prop := i < n ∧ ty i = t
theorem up2_same {α : Type} {M : Nat → Nat → α} {a k : Nat} {x : α} : up2 M a k x a k = x := by simp [up2]
theorem up2_off {α : Type} {M : Nat → Nat → α} {a k b j : Nat} {x : α} (h : ¬ (b = a ∧ j = k)) : up2 M a k x b j = M b j := by simp [up2, h]
theorem up2_row {α : Type} {M : Nat → Nat → α} {a k b : Nat} {x : α} (h : b ≠ a) : up2 M a k x b = M b := by funext j; simp [up2, h]
theorem Wf_up {n : Nat} {M : hMem} {i k : Nat} {x : Int32} (h : Wf n M)
    (h0 : (ty i).1 = 0 → (sty (ty i).2 k = 1 → x = 0 ∨ x = 1) ∧ (sty (ty i).2 k = 2 → ∃ q, q < 65536 ∧ x = nI q)) (h2 : (ty i).1 = 2 → x = 0 ∨ x = 1) (h3 : (ty i).1 = 3 → ∃ q, q < 65536 ∧ x = nI q) : Wf n (up2 M i k x) := by
  intro j hj
  by_cases e : j = i
  · subst e
    have hw := h j hj
    refine ⟨fun t a ha => ?_, fun t a ha => ?_, fun t a ha => ?_⟩
    · by_cases ea : a = k
      · subst ea; rw [up2_same]; exact h0 t
      · rw [up2_off (fun q => ea q.2)]; exact hw.1 t a ha
    · by_cases ea : a = k
      · subst ea; rw [up2_same]; exact h2 t
      · rw [up2_off (fun q => ea q.2)]; exact hw.2.1 t a ha
    · by_cases ea : a = k
      · subst ea; rw [up2_same]; exact h3 t
      · rw [up2_off (fun q => ea q.2)]; exact hw.2.2 t a ha
  · rw [up2_row e]; exact h j hj
theorem ent_ob {z : hZt} {t : Nat × Nat} {ci : Nat} {f : Nat → Int32} {r : Nat → Nat} (h : t = (0, ci)) : ent z t f r = .inr (ci, obv z ci f r) := by subst h; rfl
theorem ent_ar {z : hZt} {t : Nat × Nat} {a len : Nat} {f : Nat → Int32} {r : Nat → Nat} (h : t = (a, len)) (h0 : a ≠ 0) (h3 : a ≤ 3) : ent z t f r = .inl (z.2.2.2 a, len, .inl f) := by subst h; simp [ent, h0, h3]
theorem ent_rf {z : hZt} {t : Nat × Nat} {a len : Nat} {f : Nat → Int32} {r : Nat → Nat} (h : t = (a, len)) (h3 : 3 < a) : ent z t f r = .inl (z.2.2.2 a, len, .inr (.inr (.inr (.inr fun j => if r j = 0 then none else some (z.1 + r j))))) := by
  subst h
  simp [ent, show a ≠ 0 by omega, show ¬ a ≤ 3 by omega]
/-- the heap's size is known from the cells that were made -/
theorem W_size {p : Program} {l : Launch} {e : Env} {R9 : Room} {s : State} {m : MethodId} {args : Array Value} {below : List Frame} {meth : Method} {c : Code} {H : Heap} {locs : List Loc} {ce sl : Nat} {Q : State → Prop} {g : JFrame}
    {z : hZt} {n0 n : Nat} {M : hMem} {R : hRef} (h0 : s.heap.size = z.1 + n0) (hn : n0 ≤ n) (hce : ce = n - n0) (hP : va_P z.2.2.1 hcl (wl z n M R) H) (hS : va_S (hA z) s.heap H locs)
    (k : H.size = z.1 + n → W p l e R9 s m args below meth c H locs ce sl Q g) : W p l e R9 s m args below meth c H locs ce sl Q g := by
  intro T hT X
  have h1 := X.heapSize
  rw [hT] at h1
  have h2 := hS.1
  have h3 : z.1 + n ≤ H.size := by
    by_cases hz : n = 0
    · omega
    · have h4 := (hP (n - 1) _ (wl_at (z := z) (M := M) (R := R) (show n - 1 < n by omega))).lt
      simp only at h4
      omega
  exact k (by omega) T hT X
section HM
variable {z : hZt} {n0 n nm nL d pc i k ci idx len o : Nat} {X : hXt} {cc : ByteArray} {own : String} {M M' M2 : hMem} {R R' R2 : hRef} {L L' : List (Option Value)} {st : List Value} {x y v : Int32} {w : Value}
theorem gx_getv (hC : hOk z n0 X cc own nL d nm) (hd : decode cc pc = .ok (.getfield idx, 3)) (hF : hFl own idx ci k) (hat : hAt n i (0, ci)) (hv : sv z (sty ci k) (M i k) (R i k) = w)
    (kk : hG z n0 X n M R (pc + 3) L (w :: st)) : hG z n0 X n M R pc L (.ref (z.1 + i) :: st) := by
  intro H locs ls h1 h2 h3
  obtain ⟨C, T, N, tt, f1, f2, f3, f4, f5, f6, f7, f8, -⟩ := hF
  have hcell := wl_at (z := z) (M := M) (R := R) hat.1
  rw [ent_ob hat.2] at hcell
  exact va_get (own := own) (ref := C) hC.1 hC.2.1 hC.2.2.2.2.1 f5 hC.2.2.2.1 hC.2.2.2.2.2.1.1 h1.1 i hcell f1 k f3 (hC.2.2.2.2.1 _ f4) (fun x h => by rw [f6] at h; exact h)
    (v := w) (by rw [obv_at (by rw [← f2]; exact f3), hv]) hd (kk H locs ls h1 h2 h3)
theorem gx_getI (hC : hOk z n0 X cc own nL d nm) (hd : decode cc pc = .ok (.getfield idx, 3)) (hF : hFl own idx ci k) (hat : hAt n i (0, ci)) (hs : sty ci k < 3) (hv : M i k = v)
    (kk : hG z n0 X n M R (pc + 3) L (.int v :: st)) : hG z n0 X n M R pc L (.ref (z.1 + i) :: st) :=
  gx_getv hC hd hF hat (by subst hv; simp [sv, show sty ci k ≠ 4 by omega, show sty ci k ≠ 3 by omega]) kk
/-- a field that holds a truth value -/
theorem gx_getZ (hC : hOk z n0 X cc own nL d nm) (hd : decode cc pc = .ok (.getfield idx, 3)) (hF : hFl own idx ci k) (hat : hAt n i (0, ci)) (hs : sty ci k = 1) (hv : M i k = v)
    (kk : v = 0 ∨ v = 1 → hG z n0 X n M R (pc + 3) L (.int v :: st)) : hG z n0 X n M R pc L (.ref (z.1 + i) :: st) := by
  intro H locs ls h1 h2 h3
  have hb : v = 0 ∨ v = 1 := by
    have h := ((h1.2.2 i hat.1).1 (by rw [hat.2]))
    rw [hat.2] at h
    obtain ⟨C, T, N, tt, f1, f2, f3, -⟩ := hF
    rw [← hv]
    exact (h k (by rw [← f2]; exact f3)).1 hs
  exact gx_getI hC hd hF hat (by rw [hs]; decide) hv (kk hb) H locs ls h1 h2 h3
theorem gx_getC (hC : hOk z n0 X cc own nL d nm) (hd : decode cc pc = .ok (.getfield idx, 3)) (hF : hFl own idx ci k) (hat : hAt n i (0, ci)) (hs : sty ci k = 2) (hv : M i k = v)
    (kk : (∃ q, q < 65536 ∧ v = nI q) → hG z n0 X n M R (pc + 3) L (.int v :: st)) : hG z n0 X n M R pc L (.ref (z.1 + i) :: st) := by
  intro H locs ls h1 h2 h3
  have hb : ∃ q, q < 65536 ∧ v = nI q := by
    have h := ((h1.2.2 i hat.1).1 (by rw [hat.2]))
    rw [hat.2] at h
    obtain ⟨C, T, N, tt, f1, f2, f3, -⟩ := hF
    rw [← hv]
    exact (h k (by rw [← f2]; exact f3)).2 hs
  exact gx_getI hC hd hF hat (by rw [hs]; decide) hv (kk hb) H locs ls h1 h2 h3
theorem gx_getE (hC : hOk z n0 X cc own nL d nm) (hd : decode cc pc = .ok (.getfield idx, 3)) (hF : hFl own idx ci k) (hat : hAt n i (0, ci)) (hs : sty ci k = 3) (hv : M i k = v)
    (kk : hG z n0 X n M R (pc + 3) L (kv z.2.1 v :: st)) : hG z n0 X n M R pc L (.ref (z.1 + i) :: st) :=
  gx_getv hC hd hF hat (by subst hv; simp [sv, hs]) kk
theorem gx_getR (hC : hOk z n0 X cc own nL d nm) (hd : decode cc pc = .ok (.getfield idx, 3)) (hF : hFl own idx ci k) (hat : hAt n i (0, ci)) (hs : sty ci k = 4) (hv : R i k = o) (h0 : o ≠ 0)
    (kk : hG z n0 X n M R (pc + 3) L (.ref (z.1 + o) :: st)) : hG z n0 X n M R pc L (.ref (z.1 + i) :: st) :=
  gx_getv hC hd hF hat (by subst hv; simp [sv, hs, rv, h0]) kk
theorem narrow_int {x : Int32} : narrow .int (.int x) = .int x := rfl
theorem put_fit {ci k : Nat} {t : FieldType} {x : Int32} {o : Nat} (h0 : sty ci k = 0 → t = .int) (h1 : sty ci k = 1 → t = .boolean) (h2 : sty ci k = 2 → t = .char) (h3 : sty ci k = 3 → t = .object "HoldingStack$Kind") (h4 : sty ci k = 4 → (∃ c, t = .object c) ∨ ∃ c, t = .array c) (hlt : sty ci k < 5)
    (hb : sty ci k = 1 → x = 0 ∨ x = 1) (hc : sty ci k = 2 → ∃ q, q < 65536 ∧ x = nI q) : narrow t (sv z (sty ci k) x o) = sv z (sty ci k) x o ∧ fits t (sv z (sty ci k) x o) = true := by
  generalize hs : sty ci k = s at *
  match s, hlt with
  | 0, _ => rw [h0 rfl]; exact ⟨rfl, rfl⟩
  | 1, _ =>
    rw [h1 rfl]
    rcases hb rfl with rfl | rfl <;> exact ⟨rfl, rfl⟩
  | 2, _ =>
    rw [h2 rfl]
    obtain ⟨q, hq, rfl⟩ := hc rfl
    exact pk_charN hq
  | 3, _ =>
    rw [h3 rfl]
    show narrow _ (kv z.2.1 x) = kv z.2.1 x ∧ fits _ (kv z.2.1 x) = true
    rcases kv_isR (ek := z.2.1) (x := x) with e | ⟨q, e⟩ <;> rw [e] <;> exact ⟨rfl, rfl⟩
  | 4, _ =>
    show narrow _ (rv z.1 o) = rv z.1 o ∧ fits _ (rv z.1 o) = true
    rcases h4 rfl with ⟨c, rfl⟩ | ⟨c, rfl⟩ <;> rcases rv_isR (B := z.1) (o := o) with e | ⟨q, e⟩ <;> rw [e] <;> exact ⟨rfl, rfl⟩
theorem sty_lt (ci k : Nat) : sty ci k < 5 := by
  unfold sty
  split <;> decide
theorem gx_putv (hC : hOk z n0 X cc own nL d nm) (hd : decode cc pc = .ok (.putfield idx, 3)) (hF : hFl own idx ci k) (hat : hAt n i (0, ci)) (hnf : hNfin ci k) (hw : sv z (sty ci k) x o = w)
    (hb : sty ci k = 1 → x = 0 ∨ x = 1) (hc : sty ci k = 2 → ∃ q, q < 65536 ∧ x = nI q)
    (kk : hG z n0 X n (up2 M i k x) (up2 R i k o) (pc + 3) L st) : hG z n0 X n M R pc L (w :: .ref (z.1 + i) :: st) := by
  intro H locs ls h1 h2 h3
  subst hw
  obtain ⟨C, T, N, tt, f1, f2, f3, f4, f5, f6, f7, f8, g0, g1, g2, g3, g4⟩ := hF
  have hfin : (T k).2.2.2 = false := by
    obtain ⟨C', T', N', e1, e2⟩ := hnf
    cases f1.symm.trans e1
    exact e2
  have hcell := wl_at (z := z) (M := M) (R := R) hat.1
  rw [ent_ob hat.2] at hcell
  have hkN : k < hN ci := by rw [← f2]; exact f3
  have hfit := put_fit (z := z) (x := x) (o := o) g0 g1 g2 g3 g4 (sty_lt _ _) hb hc
  refine va_put (own := own) (ref := C) hC.1 hC.2.1 hC.2.2.2.2.1 f5 tt f7 f8 hC.2.2.2.1 hC.2.2.2.2.2.1.1 h1.1 wl_D h2 i hcell f1 k f3 (hC.2.2.2.2.1 _ f4) (fun x h => by rw [f6] at h; exact h)
    hfin (ty := tt k) (v := sv z (sty ci k) x o) (f7 k f3) hfit.1 hfit.2 (by simpa [obv] using hkN) hd (fun H1 locs1 hP _ hS => ?_)
  have he : (wl z n M R).set i (z.1 + i, .inr (ci, (obv z ci (M i) (R i)).set k (sv z (sty ci k) x o))) = wl z n (up2 M i k x) (up2 R i k o) := by
    refine wl_set hat.1 ?_ (fun j hj => ⟨up2_row hj, up2_row hj⟩)
    rw [ent_ob hat.2, obv_set hkN (by rw [up2_same, up2_same]) (fun j hj => ⟨up2_off (fun q => hj q.2), up2_off (fun q => hj q.2)⟩)]
  rw [he] at hP
  have hn : n0 ≤ n := by
    have a1 := h2.1
    have a2 := h1.2.1
    have a3 := hC.2.2.2.2.2.2.2.2.1
    omega
  refine W_size hC.2.2.2.2.2.2.2.2.1 hn rfl hP hS (fun hsz => ?_)
  exact kk H1 locs1 ls ⟨hP, hsz, Wf_up h1.2.2 (fun _ => by rw [hat.2]; exact ⟨hb, hc⟩) (fun t => by rw [hat.2] at t; cases t) (fun t => by rw [hat.2] at t; cases t)⟩ hS h3
end HM
