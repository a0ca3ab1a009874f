/-! arrays, constants, kinds, new cells -/
section HM2
variable {z : hZt} {n0 n nm nL d pc i k ci idx len o : Nat} {X : hXt} {cc : ByteArray} {own : String} {M M' M2 : hMem} {R R' R2 : hRef} {L L' : List (Option Value)} {st : List Value} {x y v : Int32} {w : Value}
theorem tyl_at1 : (tyl z)[0]? = some (z.2.2.2 1, .int) := rfl
theorem tyl_at2 : (tyl z)[1]? = some (z.2.2.2 2, .boolean) := rfl
theorem tyl_at3 : (tyl z)[2]? = some (z.2.2.2 3, .char) := rfl
theorem tyl_at4 : (tyl z)[3]? = some (z.2.2.2 4, .object RX0) := rfl
theorem tyl_at5 : (tyl z)[4]? = some (z.2.2.2 5, .object RX4) := rfl
theorem hn_le (hC : hOk z n0 X cc own nL d nm) {H : Heap} {locs : List Loc} (h1 : Hp z n M R H) (h2 : va_S (hA z) X.1.2.2.2.2.1.heap H locs) : n0 ≤ n := by
  have a1 := h2.1
  have a2 := h1.2.1
  have a3 := hC.2.2.2.2.2.2.2.2.1
  omega
theorem gx_alen (hC : hOk z n0 X cc own nL d nm) (hd : decode cc pc = .ok (.arraylength, 1)) {a : Nat} (hat : hAt n i (a, len)) (ha : 1 ≤ a ∧ a ≤ 5) (hv : Int32.ofNat len = v)
    (kk : hG z n0 X n M R (pc + 1) L (.int v :: st)) : hG z n0 X n M R pc L (.ref (z.1 + i) :: st) := by
  intro H locs ls h1 h2 h3
  have hcell := wl_at (z := z) (M := M) (R := R) hat.1
  have hK := hC.2.2.2.2.2.1.1
  rcases (show a = 1 ∨ a = 2 ∨ a = 3 ∨ a = 4 ∨ a = 5 by omega) with rfl | rfl | rfl | rfl | rfl
  · rw [ent_ar hat.2 (by decide) (by decide)] at hcell
    exact va_alen hC.1 hC.2.1 hK h1.1 i 0 hcell tyl_at1 hv hd (kk H locs ls h1 h2 h3)
  · rw [ent_ar hat.2 (by decide) (by decide)] at hcell
    exact va_alen hC.1 hC.2.1 hK h1.1 i 1 hcell tyl_at2 hv hd (kk H locs ls h1 h2 h3)
  · rw [ent_ar hat.2 (by decide) (by decide)] at hcell
    exact va_alen hC.1 hC.2.1 hK h1.1 i 2 hcell tyl_at3 hv hd (kk H locs ls h1 h2 h3)
  · rw [ent_rf hat.2 (by decide)] at hcell
    exact va_alen hC.1 hC.2.1 hK h1.1 i 3 hcell tyl_at4 hv hd (kk H locs ls h1 h2 h3)
  · rw [ent_rf hat.2 (by decide)] at hcell
    exact va_alen hC.1 hC.2.1 hK h1.1 i 4 hcell tyl_at5 hv hd (kk H locs ls h1 h2 h3)
theorem gx_iald (hC : hOk z n0 X cc own nL d nm) (hd : decode cc pc = .ok (.iaload, 1)) (hat : hAt n i (1, len)) (hx : vp_in x len) (hv : M i x.toNatClampNeg = v)
    (kk : hG z n0 X n M R (pc + 1) L (.int v :: st)) : hG z n0 X n M R pc L (.int x :: .ref (z.1 + i) :: st) := by
  intro H locs ls h1 h2 h3
  have hcell := wl_at (z := z) (M := M) (R := R) hat.1
  rw [ent_ar hat.2 (by decide) (by decide)] at hcell
  subst hv
  exact va_iald hC.1 hC.2.1 hC.2.2.2.2.2.1.1 h1.1 i 0 hcell tyl_at1 hx hd (kk H locs ls h1 h2 h3)
theorem gx_zald (hC : hOk z n0 X cc own nL d nm) (hd : decode cc pc = .ok (.baload, 1)) (hat : hAt n i (2, len)) (hx : vp_in x len) (hv : M i x.toNatClampNeg = v)
    (kk : v = 0 ∨ v = 1 → hG z n0 X n M R (pc + 1) L (.int v :: st)) : hG z n0 X n M R pc L (.int x :: .ref (z.1 + i) :: st) := by
  intro H locs ls h1 h2 h3
  have hcell := wl_at (z := z) (M := M) (R := R) hat.1
  rw [ent_ar hat.2 (by decide) (by decide)] at hcell
  have hb := (h1.2.2 i hat.1).2.1
  rw [hat.2] at hb
  have hb := hb rfl x.toNatClampNeg (Nat.not_le.mp fun q => hx (Or.inr q))
  subst hv
  exact va_zald hC.1 hC.2.1 hC.2.2.2.2.2.1.1 h1.1 i 1 hcell tyl_at2 hx hd (kk hb H locs ls h1 h2 h3)
theorem gx_cald (hC : hOk z n0 X cc own nL d nm) (hd : decode cc pc = .ok (.caload, 1)) (hat : hAt n i (3, len)) (hx : vp_in x len) (hv : M i x.toNatClampNeg = v)
    (kk : (∃ q, q < 65536 ∧ v = nI q) → hG z n0 X n M R (pc + 1) L (.int v :: st)) : hG z n0 X n M R pc L (.int x :: .ref (z.1 + i) :: st) := by
  intro H locs ls h1 h2 h3
  have hcell := wl_at (z := z) (M := M) (R := R) hat.1
  rw [ent_ar hat.2 (by decide) (by decide)] at hcell
  have hb := (h1.2.2 i hat.1).2.2
  rw [hat.2] at hb
  have hb := hb rfl x.toNatClampNeg (Nat.not_le.mp fun q => hx (Or.inr q))
  subst hv
  exact va_cald hC.1 hC.2.1 hC.2.2.2.2.2.1.1 h1.1 i 2 hcell tyl_at3 hx hd (kk hb H locs ls h1 h2 h3)
theorem wl_arr {a : Nat} (hat : hAt n i (a, len)) (ha : a ≠ 0) (ha3 : a ≤ 3) : (wl z n M R).set i (z.1 + i, .inl (z.2.2.2 a, len, .inl (upd (M i) k v))) = wl z n (up2 M i k v) R := by
  refine wl_set hat.1 ?_ (fun j hj => ⟨up2_row hj, rfl⟩)
  rw [ent_ar hat.2 ha ha3]
  congr 4
  funext j
  by_cases hj : j = k
  · subst hj; rw [up2_same]; simp [upd]
  · rw [up2_off (fun q => hj q.2)]; simp [upd, hj]
theorem gx_iast (hC : hOk z n0 X cc own nL d nm) (hd : decode cc pc = .ok (.iastore, 1)) (hat : hAt n i (1, len)) (hx : vp_in x len)
    (kk : hG z n0 X n (up2 M i x.toNatClampNeg y) R (pc + 1) L st) : hG z n0 X n M R pc L (.int y :: .int x :: .ref (z.1 + i) :: st) := by
  intro H locs ls h1 h2 h3
  have hcell := wl_at (z := z) (M := M) (R := R) hat.1
  rw [ent_ar hat.2 (by decide) (by decide)] at hcell
  refine va_iast hC.1 hC.2.1 hC.2.2.2.2.2.1.1 h1.1 wl_D h2 i 0 hcell tyl_at1 hx hd (fun H1 locs1 hP _ hS => ?_)
  rw [wl_arr hat (by decide) (by decide)] at hP
  exact W_size hC.2.2.2.2.2.2.2.2.1 (hn_le hC h1 h2) rfl hP hS (fun hsz => kk H1 locs1 ls ⟨hP, hsz, Wf_up h1.2.2 (fun t => by rw [hat.2] at t; cases t) (fun t => by rw [hat.2] at t; cases t) (fun t => by rw [hat.2] at t; cases t)⟩ hS h3)
theorem gx_zast (hC : hOk z n0 X cc own nL d nm) (hd : decode cc pc = .ok (.bastore, 1)) (hat : hAt n i (2, len)) (hx : vp_in x len) (hy : y = 0 ∨ y = 1)
    (kk : hG z n0 X n (up2 M i x.toNatClampNeg y) R (pc + 1) L st) : hG z n0 X n M R pc L (.int y :: .int x :: .ref (z.1 + i) :: st) := by
  intro H locs ls h1 h2 h3
  have hcell := wl_at (z := z) (M := M) (R := R) hat.1
  rw [ent_ar hat.2 (by decide) (by decide)] at hcell
  refine va_zast hC.1 hC.2.1 hC.2.2.2.2.2.1.1 h1.1 wl_D h2 i 1 hcell tyl_at2 hx hd (fun H1 locs1 hP _ hS => ?_)
  have e : vp_nar .boolean y = y := by rcases hy with rfl | rfl <;> rfl
  rw [e, wl_arr hat (by decide) (by decide)] at hP
  exact W_size hC.2.2.2.2.2.2.2.2.1 (hn_le hC h1 h2) rfl hP hS (fun hsz => kk H1 locs1 ls ⟨hP, hsz, Wf_up h1.2.2 (fun t => by rw [hat.2] at t; cases t) (fun _ => hy) (fun t => by rw [hat.2] at t; cases t)⟩ hS h3)
theorem gx_cast (hC : hOk z n0 X cc own nL d nm) (hd : decode cc pc = .ok (.castore, 1)) (hat : hAt n i (3, len)) (hx : vp_in x len) (hy : ∃ q, q < 65536 ∧ y = nI q)
    (kk : hG z n0 X n (up2 M i x.toNatClampNeg y) R (pc + 1) L st) : hG z n0 X n M R pc L (.int y :: .int x :: .ref (z.1 + i) :: st) := by
  intro H locs ls h1 h2 h3
  have hcell := wl_at (z := z) (M := M) (R := R) hat.1
  rw [ent_ar hat.2 (by decide) (by decide)] at hcell
  refine va_cast hC.1 hC.2.1 hC.2.2.2.2.2.1.1 h1.1 wl_D h2 i 2 hcell tyl_at3 hx hd (fun H1 locs1 hP _ hS => ?_)
  have e : vp_nar .char y = y := by
    obtain ⟨q, hq, rfl⟩ := hy
    unfold vp_nar
    rw [(pk_charN hq).1]
  rw [e, wl_arr hat (by decide) (by decide)] at hP
  exact W_size hC.2.2.2.2.2.2.2.2.1 (hn_le hC h1 h2) rfl hP hS (fun hsz => kk H1 locs1 ls ⟨hP, hsz, Wf_up h1.2.2 (fun t => by rw [hat.2] at t; cases t) (fun t => by rw [hat.2] at t; cases t) (fun _ => hy)⟩ hS h3)
/-- an array of references -/
theorem gx_aald (hC : hOk z n0 X cc own nL d nm) (hd : decode cc pc = .ok (.aaload, 1)) {a : Nat} (hat : hAt n i (a, len)) (ha : a = 4 ∨ a = 5) (hx : vp_in x len) (hv : R i x.toNatClampNeg = o) (h0 : o ≠ 0)
    (kk : hG z n0 X n M R (pc + 1) L (.ref (z.1 + o) :: st)) : hG z n0 X n M R pc L (.int x :: .ref (z.1 + i) :: st) := by
  intro H locs ls h1 h2 h3
  have hcell := wl_at (z := z) (M := M) (R := R) hat.1
  have e : va_rf (if R i x.toNatClampNeg = 0 then none else some (z.1 + R i x.toNatClampNeg)) = .ref (z.1 + o) := by rw [hv, if_neg h0]; rfl
  rcases ha with rfl | rfl
  · rw [ent_rf hat.2 (by decide)] at hcell
    refine va_aldq hC.1 hC.2.1 hC.2.2.2.2.2.1.1 h1.1 i 3 hcell tyl_at4 hx hd ?_
    rw [e]
    exact kk H locs ls h1 h2 h3
  · rw [ent_rf hat.2 (by decide)] at hcell
    refine va_aldq hC.1 hC.2.1 hC.2.2.2.2.2.1.1 h1.1 i 4 hcell tyl_at5 hx hd ?_
    rw [e]
    exact kk H locs ls h1 h2 h3
theorem wl_aref {a : Nat} (hat : hAt n i (a, len)) (ha : 3 < a) (h0 : o ≠ 0) : (wl z n M R).set i (z.1 + i, .inl (z.2.2.2 a, len, .inr (.inr (.inr (.inr (va_up (fun j => if R i j = 0 then none else some (z.1 + R i j)) k (some (z.1 + o)))))))) = wl z n M (up2 R i k o) := by
  refine wl_set hat.1 ?_ (fun j hj => ⟨rfl, up2_row hj⟩)
  rw [ent_rf hat.2 ha]
  congr 7
  funext j
  by_cases hj : j = k
  · subst hj; rw [up2_same]; simp [va_up, h0]
  · rw [up2_off (fun q => hj q.2)]; simp [va_up, hj]
theorem gx_aast (hC : hOk z n0 X cc own nL d nm) (hd : decode cc pc = .ok (.aastore, 1)) {a : Nat} (hat : hAt n i (a, len)) (ho : a = 4 ∧ hAt n o (0, 0) ∨ a = 5 ∧ hAt n o (0, 3)) (hx : vp_in x len) (h0 : o ≠ 0)
    (kk : hG z n0 X n M (up2 R i x.toNatClampNeg o) (pc + 1) L st) : hG z n0 X n M R pc L (.ref (z.1 + o) :: .int x :: .ref (z.1 + i) :: st) := by
  intro H locs ls h1 h2 h3
  have hcell := wl_at (z := z) (M := M) (R := R) hat.1
  rcases ho with ⟨rfl, ho⟩ | ⟨rfl, ho⟩
  · rw [ent_rf hat.2 (by decide)] at hcell
    have hco := wl_at (z := z) (M := M) (R := R) ho.1
    rw [ent_ob ho.2] at hco
    refine va_astq (r := (RX0, TX0, 8)) hC.1 hC.2.1 hC.2.2.2.2.2.1.1 h1.1 wl_D h2 i 3 o 0 hcell tyl_at4 hco rfl hx hd (fun H1 locs1 hP _ hS => ?_)
    rw [wl_aref hat (by decide) h0] at hP
    exact W_size hC.2.2.2.2.2.2.2.2.1 (hn_le hC h1 h2) rfl hP hS (fun hsz => kk H1 locs1 ls ⟨hP, hsz, h1.2.2⟩ hS h3)
  · rw [ent_rf hat.2 (by decide)] at hcell
    have hco := wl_at (z := z) (M := M) (R := R) ho.1
    rw [ent_ob ho.2] at hco
    refine va_astq (r := (RX4, TX4, 16)) hC.1 hC.2.1 hC.2.2.2.2.2.1.1 h1.1 wl_D h2 i 4 o 3 hcell tyl_at5 hco rfl hx hd (fun H1 locs1 hP _ hS => ?_)
    rw [wl_aref hat (by decide) h0] at hP
    exact W_size hC.2.2.2.2.2.2.2.2.1 (hn_le hC h1 h2) rfl hP hS (fun hsz => kk H1 locs1 ls ⟨hP, hsz, h1.2.2⟩ hS h3)
/-- a constant of the enum -/
theorem gx_getstatic (hC : hOk z n0 X cc own nL d nm) (hd : decode cc pc = .ok (.getstatic idx, 3)) (j : Nat) (hj : j < 3) (hl : Cond.fieldLink own idx "HoldingStack$Kind" (kNm.getD j "") "LHoldingStack$Kind;" ∈ hgd)
    (kk : hG z n0 X n M R (pc + 3) L (kv z.2.1 (nI j) :: st)) : hG z n0 X n M R pc L st := by
  intro H locs ls h1 h2 h3
  have e : kv z.2.1 (nI j) = .ref (z.2.1 j) := by
    rcases (show j = 0 ∨ j = 1 ∨ j = 2 by omega) with rfl | rfl | rfl <;> simp [kv, show nI 0 = 0 from rfl, show nI 1 = 1 from rfl, show nI 2 = 2 from rfl]
  rw [e] at kk
  exact va_gets hC.1 hC.2.1 (hC.2.2.2.2.2.1.2.1.1 j hj).1 h2 hC.2.2.2.1 (hC.2.2.2.2.1 _ hl) (fun _ h => h) hd (kk H locs ls h1 h2 h3)
def kRate (x : Int32) : Int32 := if x = 0 then 4 else if x = 1 then 9 else 18
def kRes (x : Int32) : Int32 := if x = 0 then 40 else if x = 1 then 100 else 220
def kWake (x : Int32) : Int32 := if x = 0 then 2 else if x = 1 then 3 else 4
def kFld (q : Nat) (x : Int32) : Int32 := match q with
  | 0 => x
  | 1 => kRate x
  | 2 => kRes x
  | _ => kWake x
theorem gx_getK (hC : hOk z n0 X cc own nL d nm) (hd : decode cc pc = .ok (.getfield idx, 3)) (q : Nat) (hq : q < 4) (hl : Cond.fieldLink own idx "HoldingStack$Kind" (["number", "rate", "reserve", "wake"].getD q "") "I" ∈ hgd) (hx : hk x) (hv : kFld q x = v)
    (kk : hG z n0 X n M R (pc + 3) L (.int v :: st)) : hG z n0 X n M R pc L (kv z.2.1 x :: st) := by
  intro H locs ls h1 h2 h3
  obtain ⟨j, hj, e1, e2⟩ := kv_some (ek := z.2.1) hx
  rw [e2]
  have hm : kFd.getD q ("", "", "", []) ∈ kFd := by
    rcases (show q = 0 ∨ q = 1 ∨ q = 2 ∨ q = 3 by omega) with rfl | rfl | rfl | rfl <;> simp [kFd]
  have hval : (kFd.getD q ("", "", "", [])).2.2.2.getD j 0 = v := by
    subst hv e1
    rcases (show q = 0 ∨ q = 1 ∨ q = 2 ∨ q = 3 by omega) with rfl | rfl | rfl | rfl <;> rcases (show j = 0 ∨ j = 1 ∨ j = 2 by omega) with rfl | rfl | rfl <;> rfl
  have hl2 : Cond.fieldLink own idx "HoldingStack$Kind" (kFd.getD q ("", "", "", [])).2.1 (kFd.getD q ("", "", "", [])).2.2.1 ∈ hgd := by
    rcases (show q = 0 ∨ q = 1 ∨ q = 2 ∨ q = 3 by omega) with rfl | rfl | rfl | rfl <;> exact hl
  have hown : (kFd.getD q ("", "", "", [])).1 = "HoldingStack$Kind" := by
    rcases (show q = 0 ∨ q = 1 ∨ q = 2 ∨ q = 3 by omega) with rfl | rfl | rfl | rfl <;> rfl
  have kk' := kk H locs ls h1 h2 h3
  rw [← hval] at kk'
  exact va_getE hC.1 hC.2.1 hC.2.2.2.2.2.1.2.1 hj h2 hC.2.2.2.1 hm (hC.2.2.2.2.1 _ hl2) (fun y h => by rw [hown] at h; exact h) hd kk'
end HM2
