/-! short forms of the rows; blocks of the memory -/
section HB
variable {z : hZt} {n0 n nm n2 nL d pc i k ci idx len o np : Nat} {X : hXt} {cc : ByteArray} {own : String} {M M' M2 : hMem} {R R' R2 : hRef} {L L' : List (Option Value)} {st st' : List Value} {x y v : Int32} {w : Value} {tgt : Nat} {off : Int}
theorem up2_self {α : Type} {M : Nat → Nat → α} {a k : Nat} : up2 M a k (M a k) = M := by
  funext b j
  unfold up2
  split
  · next h => obtain ⟨rfl, rfl⟩ := h; rfl
  · rfl
theorem gx_putx (hC : hOk z n0 X cc own nL d nm) (hd : decode cc pc = .ok (.putfield idx, 3)) (hF : hFl own idx ci k) (hat : hAt n i (0, ci)) (hnf : hNfin ci k) (hs : sty ci k < 4) (hw : sv z (sty ci k) x (R i k) = w) (hb : sty ci k = 1 → x = 0 ∨ x = 1) (hc : sty ci k = 2 → ∃ q, q < 65536 ∧ x = nI q) (hM : up2 M i k x = M')
    (kk : hG z n0 X n M' R (pc + 3) L st) : hG z n0 X n M R pc L (w :: .ref (z.1 + i) :: st) := by
  subst hM
  refine gx_putv (x := x) (o := R i k) hC hd hF hat hnf hw hb hc ?_
  rw [up2_self]
  exact kk
theorem gx_putI (hC : hOk z n0 X cc own nL d nm) (hd : decode cc pc = .ok (.putfield idx, 3)) (hF : hFl own idx ci k) (hat : hAt n i (0, ci)) (hnf : hNfin ci k) (hs : sty ci k = 0) (hM : up2 M i k x = M')
    (kk : hG z n0 X n M' R (pc + 3) L st) : hG z n0 X n M R pc L (.int x :: .ref (z.1 + i) :: st) :=
  gx_putx hC hd hF hat hnf (by omega) (by rw [hs]; rfl) (fun h => by omega) (fun h => by omega) hM kk
theorem gx_putZ (hC : hOk z n0 X cc own nL d nm) (hd : decode cc pc = .ok (.putfield idx, 3)) (hF : hFl own idx ci k) (hat : hAt n i (0, ci)) (hnf : hNfin ci k) (hs : sty ci k = 1) (hb : x = 0 ∨ x = 1) (hM : up2 M i k x = M')
    (kk : hG z n0 X n M' R (pc + 3) L st) : hG z n0 X n M R pc L (.int x :: .ref (z.1 + i) :: st) :=
  gx_putx hC hd hF hat hnf (by omega) (by rw [hs]; rfl) (fun h => hb) (fun h => by omega) hM kk
theorem gx_putC (hC : hOk z n0 X cc own nL d nm) (hd : decode cc pc = .ok (.putfield idx, 3)) (hF : hFl own idx ci k) (hat : hAt n i (0, ci)) (hnf : hNfin ci k) (hs : sty ci k = 2) (hb : ∃ q, q < 65536 ∧ x = nI q) (hM : up2 M i k x = M')
    (kk : hG z n0 X n M' R (pc + 3) L st) : hG z n0 X n M R pc L (.int x :: .ref (z.1 + i) :: st) :=
  gx_putx hC hd hF hat hnf (by omega) (by rw [hs]; rfl) (fun h => by omega) (fun h => hb) hM kk
theorem gx_putE (hC : hOk z n0 X cc own nL d nm) (hd : decode cc pc = .ok (.putfield idx, 3)) (hF : hFl own idx ci k) (hat : hAt n i (0, ci)) (hnf : hNfin ci k) (hs : sty ci k = 3) (hM : up2 M i k x = M')
    (kk : hG z n0 X n M' R (pc + 3) L st) : hG z n0 X n M R pc L (kv z.2.1 x :: .ref (z.1 + i) :: st) :=
  gx_putx hC hd hF hat hnf (by omega) (by rw [hs]; rfl) (fun h => by omega) (fun h => by omega) hM kk
theorem gx_putR (hC : hOk z n0 X cc own nL d nm) (hd : decode cc pc = .ok (.putfield idx, 3)) (hF : hFl own idx ci k) (hat : hAt n i (0, ci)) (hnf : hFin ci k) (hin : X.2.1.2.1.name = "<init>") (hown : ∃ T N, hcl[ci]? = some (own, T, N)) (hs : sty ci k = 4) (h0 : o ≠ 0) (hR : up2 R i k o = R')
    (kk : hG z n0 X n M R' (pc + 3) L st) : hG z n0 X n M R pc L (.ref (z.1 + o) :: .ref (z.1 + i) :: st) := by
  subst hR
  refine gx_putF (x := M i k) (o := o) hC hd hF hat hnf hin hown (by rw [hs]; simp [sv, rv, h0]) (fun h => by omega) (fun h => by omega) ?_
  rw [up2_self]
  exact kk
theorem gx_putFI (hC : hOk z n0 X cc own nL d nm) (hd : decode cc pc = .ok (.putfield idx, 3)) (hF : hFl own idx ci k) (hat : hAt n i (0, ci)) (hnf : hFin ci k) (hin : X.2.1.2.1.name = "<init>") (hown : ∃ T N, hcl[ci]? = some (own, T, N)) (hs : sty ci k = 0) (hM : up2 M i k x = M')
    (kk : hG z n0 X n M' R (pc + 3) L st) : hG z n0 X n M R pc L (.int x :: .ref (z.1 + i) :: st) := by
  subst hM
  refine gx_putF (x := x) (o := R i k) hC hd hF hat hnf hin hown (by rw [hs]; rfl) (fun h => by omega) (fun h => by omega) ?_
  rw [up2_self]
  exact kk
theorem gx_iastM (hC : hOk z n0 X cc own nL d nm) (hd : decode cc pc = .ok (.iastore, 1)) (hat : hAt n i (1, len)) (hx : vp_in x len) (hM : up2 M i x.toNatClampNeg y = M')
    (kk : hG z n0 X n M' R (pc + 1) L st) : hG z n0 X n M R pc L (.int y :: .int x :: .ref (z.1 + i) :: st) := by
  subst hM
  exact gx_iast hC hd hat hx kk
theorem gx_callV1 (hC : hOk z n0 X cc own nL d nm) {yd : hYd} {As : List Value} (hd : decode cc pc = .ok (.invokevirtual idx, 3)) (hct : hCt X.1.2.1 z yd (.ref (z.1 + i) :: As) n M R n2 (some w) M' R') (hY : hYk yd np) (hV : hYv yd) (hl : Cond.methodLink own idx yd.1 ∈ hgd)
    (hat : hAt n i (0, ci)) (hrc : (hcl[ci]?).map (fun q => q.1) = some yd.1.cls) (hdp : yd.2.2.2.2 + 1 ≤ d) (hnp : As.length = np) (hL : L.length = nL) (hst : st' = As.reverse ++ .ref (z.1 + i) :: st) (hcat : (st.map fun v => v.category).sum ≤ 8) (hn2 : n ≤ n2) (hnm : n2 ≤ nm)
    (kk : hG z n0 X n2 M' R' (pc + 3) L (w :: st)) : hG z n0 X n M R pc L st' := gx_callV hC hd hct hY hV hl hat hrc hdp hnp hL hst hcat hn2 hnm kk
theorem gx_callV0 (hC : hOk z n0 X cc own nL d nm) {yd : hYd} {As : List Value} (hd : decode cc pc = .ok (.invokevirtual idx, 3)) (hct : hCt X.1.2.1 z yd (.ref (z.1 + i) :: As) n M R n2 none M' R') (hY : hYk yd np) (hV : hYv yd) (hl : Cond.methodLink own idx yd.1 ∈ hgd)
    (hat : hAt n i (0, ci)) (hrc : (hcl[ci]?).map (fun q => q.1) = some yd.1.cls) (hdp : yd.2.2.2.2 + 1 ≤ d) (hnp : As.length = np) (hL : L.length = nL) (hst : st' = As.reverse ++ .ref (z.1 + i) :: st) (hcat : (st.map fun v => v.category).sum ≤ 8) (hn2 : n ≤ n2) (hnm : n2 ≤ nm)
    (kk : hG z n0 X n2 M' R' (pc + 3) L st) : hG z n0 X n M R pc L st' := gx_callV hC hd hct hY hV hl hat hrc hdp hnp hL hst hcat hn2 hnm kk
theorem gx_callS1 (hC : hOk z n0 X cc own nL d nm) {yd : hYd} {As : List Value} (hd : decode cc pc = .ok (.invokestatic idx, 3)) (hct : hCt X.1.2.1 z yd As n M R n2 (some w) M' R') (hY : hYk yd np) (hV : Cond.static yd.1 ∈ hgd) (hl : Cond.methodLink own idx yd.1 ∈ hgd)
    (hdp : yd.2.2.2.2 + 1 ≤ d) (hnp : As.length = np) (hL : L.length = nL) (hst : st' = As.reverse ++ st) (hcat : (st.map fun v => v.category).sum ≤ 8) (hn2 : n ≤ n2) (hnm : n2 ≤ nm)
    (kk : hG z n0 X n2 M' R' (pc + 3) L (w :: st)) : hG z n0 X n M R pc L st' := gx_callS hC hd hct hY hV hl hdp hnp hL hst hcat hn2 hnm kk
theorem gx_callS0 (hC : hOk z n0 X cc own nL d nm) {yd : hYd} {As : List Value} (hd : decode cc pc = .ok (.invokestatic idx, 3)) (hct : hCt X.1.2.1 z yd As n M R n2 none M' R') (hY : hYk yd np) (hV : Cond.static yd.1 ∈ hgd) (hl : Cond.methodLink own idx yd.1 ∈ hgd)
    (hdp : yd.2.2.2.2 + 1 ≤ d) (hnp : As.length = np) (hL : L.length = nL) (hst : st' = As.reverse ++ st) (hcat : (st.map fun v => v.category).sum ≤ 8) (hn2 : n ≤ n2) (hnm : n2 ≤ nm)
    (kk : hG z n0 X n2 M' R' (pc + 3) L st) : hG z n0 X n M R pc L st' := gx_callS hC hd hct hY hV hl hdp hnp hL hst hcat hn2 hnm kk
theorem gx_table (hC : hOk z n0 X cc own nL d nm) {dflt lo hi : Int} {offs : Array Int} {ln : Nat} (hd : decode cc pc = .ok (.tableswitch dflt lo hi offs, ln)) (hsz : hi = lo + offs.size - 1)
    (ko : x.toInt < lo ∨ hi < x.toInt → ∀ tg : Nat, (pc : Int) + dflt = tg → hG z n0 X n M R tg L st)
    (ki : ∀ (j : Nat) (f : Int), offs[j]? = some f → x.toInt = lo + j → ∀ tg : Nat, (pc : Int) + f = tg → hG z n0 X n M R tg L st) (hpos0 : (dflt :: offs.toList).all (fun f => decide (0 ≤ (pc : Int) + f)) = true) : hG z n0 X n M R pc L (.int x :: st) := by
  intro H locs ls h1 h2 h3
  have hpos : ∀ f, f = dflt ∨ f ∈ offs.toList → 0 ≤ (pc : Int) + f := fun f hf => of_decide_eq_true (List.all_eq_true.mp hpos0 f (List.mem_cons.mpr hf))
  by_cases h : x.toInt < lo ∨ hi < x.toInt
  · obtain ⟨tg, ht⟩ := Int.eq_ofNat_of_zero_le (hpos dflt (Or.inl rfl))
    exact lv_tableOut hC.1 hC.2.1 hd h ht (ko h tg ht H locs ls h1 h2 h3)
  · have a1 : ¬ x.toInt < lo := fun q => h (Or.inl q)
    have a2 : ¬ hi < x.toInt := fun q => h (Or.inr q)
    have hj : (x.toInt - lo).toNat < offs.size := by omega
    have ho : offs[(x.toInt - lo).toNat]? = some offs[(x.toInt - lo).toNat] := Array.getElem?_eq_getElem hj
    obtain ⟨tg, ht⟩ := Int.eq_ofNat_of_zero_le (hpos offs[(x.toInt - lo).toNat] (Or.inr (Array.getElem_mem_toList hj)))
    exact lv_tableIn hC.1 hC.2.1 hd a1 a2 ho ht (ki _ _ ho (by omega) tg ht H locs ls h1 h2 h3)
end HB
/-- a reference to an aircraft of a state, or null -/
def aref (z : hZt) (o : Nat) (q : Option Nat) : Value := match q with
  | none => .null
  | some j => .ref (z.1 + (o + (3 + j)))
theorem aref_isR {z : hZt} {o : Nat} {q : Option Nat} : isR (aref z o q) := by cases q; exact Or.inl rfl; exact Or.inr ⟨_, rfl⟩
theorem aref_none {z : hZt} {o : Nat} : aref z o none = .null := rfl
theorem aref_some {z : hZt} {o j : Nat} : aref z o (some j) = .ref (z.1 + (o + (3 + j))) := rfl
section HB2
variable {z : hZt} {n0 n nm n2 nL d pc i k ci idx len o np : Nat} {X : hXt} {cc : ByteArray} {own : String} {M M' M2 : hMem} {R R' R2 : hRef} {L L' : List (Option Value)} {st st' : List Value} {x y v : Int32} {w : Value} {tgt : Nat} {off : Int}
theorem gx_ifnull_o (hC : hOk z n0 X cc own nL d nm) {q : Option Nat} (hd : decode cc pc = .ok (.ifnull off, 3)) (ht : (pc : Int) + off = (tgt : Int)) (kt : q = none → hG z n0 X n M R tgt L st) (kf : ∀ j, q = some j → hG z n0 X n M R (pc + 3) L st) : hG z n0 X n M R pc L (aref z o q :: st) := by
  cases q with
  | none => exact gx_ifnull_null hC hd ht (kt rfl)
  | some j => exact gx_ifnull_ref hC hd (kf j rfl)
theorem gx_ifnonnull_o (hC : hOk z n0 X cc own nL d nm) {q : Option Nat} (hd : decode cc pc = .ok (.ifnonnull off, 3)) (ht : (pc : Int) + off = (tgt : Int)) (kt : ∀ j, q = some j → hG z n0 X n M R tgt L st) (kf : q = none → hG z n0 X n M R (pc + 3) L st) : hG z n0 X n M R pc L (aref z o q :: st) := by
  cases q with
  | none => exact gx_ifnonnull_null hC hd (kf rfl)
  | some j => exact gx_ifnonnull_ref hC hd ht (kt j rfl)
end HB2
/-- 23 cells from o on hold the block f -/
def putS (M : hMem) (o : Nat) (f : hMem) : hMem := fun i k => if o ≤ i ∧ i < o + 23 then f (i - o) k else M i k
def getS (M : hMem) (o : Nat) : hMem := fun i k => if i < 23 then M (o + i) k else 0
theorem pS0 {M f : hMem} {o k : Nat} : putS M o f o k = f 0 k := by simp [putS]
theorem pSj {M f : hMem} {o j k : Nat} (h : j < 23) : putS M o f (o + j) k = f j k := by simp [putS, h]
theorem pSo {M f : hMem} {o i k : Nat} (h : i < o ∨ o + 23 ≤ i) : putS M o f i k = M i k := by
  unfold putS
  rw [if_neg (by omega)]
theorem putS_get {M : hMem} {o : Nat} : putS M o (getS M o) = M := by
  funext i k
  unfold putS getS
  split
  · next h => rw [if_pos (by omega), show o + (i - o) = i by omega]
  · rfl
theorem up_S {M f : hMem} {o j k : Nat} {x : Int32} (h : j < 23) : up2 (putS M o f) (o + j) k x = putS M o (up2 f j k x) := by
  funext i q
  unfold up2 putS
  by_cases hi : o ≤ i ∧ i < o + 23
  · rw [if_pos hi, if_pos hi]
    by_cases e : i = o + j
    · subst e; simp
    · rw [if_neg (fun h => e h.1)]
      show _ = if i - o = j ∧ q = k then x else f (i - o) q
      rw [if_neg (fun h => e (by omega))]
  · rw [if_neg hi, if_neg hi, if_neg (fun h => hi (by omega))]
theorem up_S0 {M f : hMem} {o k : Nat} {x : Int32} : up2 (putS M o f) o k x = putS M o (up2 f 0 k x) := up_S (j := 0) (by omega)
theorem putS_put {M f g : hMem} {o : Nat} : putS (putS M o f) o g = putS M o g := by
  funext i k
  unfold putS
  split <;> rfl
/-- the cells of a state stand at o -/
def hSt (n : Nat) (R : hRef) (o : Nat) : Prop := o ≠ 0 ∧ hAt n o (0, 3) ∧ hAt n (o + 1) (4, 20) ∧ hAt n (o + 2) (1, 16) ∧ (∀ j, j < 20 → hAt n (o + (3 + j)) (0, 0)) ∧ R o 0 = o + 1 ∧ R o 1 = o + 2 ∧ ∀ j, j < 20 → R (o + 1) j = o + (3 + j)
theorem hSt.at {n : Nat} {R : hRef} {o : Nat} (h : hSt n R o) : hAt n o (0, 3) := h.2.1
theorem hSt.aa {n : Nat} {R : hRef} {o : Nat} (h : hSt n R o) : hAt n (o + 1) (4, 20) := h.2.2.1
theorem hSt.ah {n : Nat} {R : hRef} {o : Nat} (h : hSt n R o) : hAt n (o + 2) (1, 16) := h.2.2.2.1
theorem hSt.ac {n : Nat} {R : hRef} {o j : Nat} (h : hSt n R o) (hj : j < 20) : hAt n (o + (3 + j)) (0, 0) := h.2.2.2.2.1 j hj
theorem hSt.ra {n : Nat} {R : hRef} {o : Nat} (h : hSt n R o) : R o 0 = o + 1 := h.2.2.2.2.2.1
theorem hSt.rh {n : Nat} {R : hRef} {o : Nat} (h : hSt n R o) : R o 1 = o + 2 := h.2.2.2.2.2.2.1
theorem hSt.rc {n : Nat} {R : hRef} {o j : Nat} (h : hSt n R o) (hj : j < 20) : R (o + 1) j = o + (3 + j) := h.2.2.2.2.2.2.2 j hj
