/-! the rows that only the law has; the script -/
section LR
variable {z : hZt} {n0 n nm n2 nL d pc i k ci idx len np : Nat} {X : hXt} {cc : ByteArray} {own : String} {M M' : hMem} {R R' : hRef} {L L' : List (Option Value)} {st st' : List Value} {x y v : Int32} {vo : Option Value} {b Ls : Nat} {xs : Nat → Int32}
theorem gx_irem (hC : hOk z n0 X cc own nL d nm) (hd : decode cc pc = .ok (.irem, 1)) (hne : ¬ y = 0) (k : hG z n0 X n M R (pc + 1) L (.int (x - x / y * y) :: st)) : hG z n0 X n M R pc L (.int y :: .int x :: st) :=
  fun H locs ls h1 h2 h3 => lv_irem hC.1 hC.2.1 hd hne (k H locs ls h1 h2 h3)
theorem gx_ishr (hC : hOk z n0 X cc own nL d nm) (hd : decode cc pc = .ok (.ishr, 1)) (k : hG z n0 X n M R (pc + 1) L (.int (x >>> (y &&& 31)) :: st)) : hG z n0 X n M R pc L (.int y :: .int x :: st) :=
  fun H locs ls h1 h2 h3 => lv_ishr hC.1 hC.2.1 hd (k H locs ls h1 h2 h3)
theorem gx_ldc (hC : hOk z n0 X cc own nL d nm) {c : Nat} (hd : decode cc pc = .ok (.ldc c, 2)) (hw : Cond.constant own c v ∈ hgd) (k : hG z n0 X n M R (pc + 2) L (.int v :: st)) : hG z n0 X n M R pc L st :=
  fun H locs ls h1 h2 h3 => lv_ldc hC.1 hC.2.1 hC.2.2.2.1 (hC.2.2.2.2.1 _ hw) hd (k H locs ls h1 h2 h3)
theorem gx_lcmp {a : Int64} (hC : hOk z n0 X cc own nL d nm) (hd : decode cc pc = .ok (.lcmp, 1)) (kk : hG z n0 X n M R (pc + 1) L (.int 0 :: st)) : hG z n0 X n M R pc L (.long a :: .long a :: st) := by
  intro H locs ls h1 h2 h3
  have k := kk H locs ls h1 h2 h3
  have e : lg_cmp a a = 0 := by simp [lg_cmp]
  rw [← e] at k
  exact W.lcmp hC.1 hC.2.1 hd k
theorem gx_sld (hC : hOk z n0 X cc own nL d nm) (hX : va_X b Ls xs X.1.2.2.2.2.1 X.1.2.2.2.2.1.heap) (hbl : b < X.1.2.2.2.2.1.heap.size) (hbz : b < z.1) {i : Nat} (hi : i < Ls) (hL : Ls < 2 ^ 31) (hd : decode cc pc = .ok (.iaload, 1))
    (kk : hG z n0 X n M R (pc + 1) L (.int (xs i) :: st)) : hG z n0 X n M R pc L (.int (nI i) :: .ref b :: st) := by
  intro H locs ls h1 h2 h3
  have k := kk H locs ls h1 h2 h3
  rw [← nI_clamp (show i < 2 ^ 31 by omega)] at k
  exact va_sld hC.1 hC.2.1 hX hbl (show ¬ z.1 ≤ b by omega) h2 (vpn hi hL) hd k
theorem gx_slen (hC : hOk z n0 X cc own nL d nm) (hX : va_X b Ls xs X.1.2.2.2.2.1 X.1.2.2.2.2.1.heap) (hbl : b < X.1.2.2.2.2.1.heap.size) (hbz : b < z.1) (hd : decode cc pc = .ok (.arraylength, 1))
    (kk : hG z n0 X n M R (pc + 1) L (.int (nI Ls) :: st)) : hG z n0 X n M R pc L (.ref b :: st) := by
  intro H locs ls h1 h2 h3
  exact va_slen hC.1 hC.2.1 hX hbl (show ¬ z.1 ≤ b by omega) h2 hd (kk H locs ls h1 h2 h3)
def hScr (z : hZt) (b Ls : Nat) (xs : Nat → Int32) (U : State) : Prop := (b < U.heap.size ∧ b < z.1) ∧ va_X b Ls xs U U.heap
/-- a contract of a method that reads the script, and leaves all as it is -/
def hCs (l : Launch) (z : hZt) (yd : hYd) (av : List Value) (n : Nat) (M : hMem) (R : hRef) (vo : Option Value) (b Ls : Nat) (xs : Nat → Int32) : Prop :=
  Met l yd.1 (hws yd) (hrm yd (n - n) (slt n - slt n)) (va_Pc av (fun U => Wo z n M R U ∧ hScr z b Ls xs U)) (hQc z n vo M R) (n - n) (slt n - slt n) (hA z)
theorem Scr.blind {av : List Value} : FrameBlind (va_Pc av (fun U => Wo z n M R U ∧ hScr z b Ls xs U)) := fun a U g mk q =>
  ⟨q.1, ⟨Fx.calling g mk a q.2.1.1, q.2.1.2⟩, q.2.2.1, va_X.moved (u := U) (U := U.calling g mk a) (Vm.Alike.refl U.vm) q.2.2.2⟩
theorem hs_startS {l : Launch} {yd : hYd} {av : List Value} (L : List (Option Value)) (hp : plainName yd.1.cls = true) (hL : av.map some ++ List.replicate (yd.2.2.1 - av.length) none = L) (hcat : ∀ v ∈ av, v.category = 1) (hlen : av.length ≤ yd.2.2.1)
    (body : ∀ X : hXt, X.1.2.1 = l → va_X b Ls xs X.1.2.2.2.2.1 X.1.2.2.2.2.1.heap → b < X.1.2.2.2.2.1.heap.size → b < z.1 → hOk z n X yd.2.1 yd.1.cls yd.2.2.1 yd.2.2.2.2 n → hRq z n X n vo M R yd.2.2.2.1 → hG z n X n M R 0 L []) : hCs l z yd av n M R vo b Ls xs := by
  refine Met.ofW (cc := yd.2.1) (maxL := yd.2.2.1) (ret := yd.2.2.2.1) hp rfl ?_
  intro p e s m args below meth c s₁ B hml hv
  obtain ⟨rfl, ⟨hfx, hp1⟩, ⟨hb1, hb2⟩, hx⟩ := hv
  have hts := atoms_spec (ws := hws yd) B.pre
  have hX := body ((p, l, e, (headSpec (hws yd) (hrm yd (n - n) (slt n - slt n))).room, s, m, av.toArray), (below, meth, c), MQ below (hQc z n vo M R) av.toArray s (n - n) (slt n - slt n) (hA z)) rfl hx hb1 hb2
    ⟨B.exec, B.bytes, hml, findClass_of_methodNamed B.named, fun w hw => hts w (List.mem_cons_of_mem _ hw), hfx, Nat.le_refl _, Nat.le_refl _, hp1.2.1, Nat.le_refl _, Nat.le_refl _, Nat.le_refl _⟩ ⟨rfl, B.returns, B.notSynchronized⟩
  have hl := lh_entry av hcat hlen
  rw [hL] at hl
  rw [lg_entry_eq]
  have h := hX s.heap [] _ hp1 va_S.rf hl
  simp only [Nat.sub_self] at h ⊢
  exact h
theorem gx_callSs (hC : hOk z n0 X cc own nL d nm) (hX : va_X b Ls xs X.1.2.2.2.2.1 X.1.2.2.2.2.1.heap) (hbl : b < X.1.2.2.2.2.1.heap.size) (hbz : b < z.1) {yd : hYd} {As : List Value} (hd : decode cc pc = .ok (.invokestatic idx, 3)) (hct : hCs X.1.2.1 z yd As n M R vo b Ls xs) (hY : hYk yd np) (hV : Cond.static yd.1 ∈ hgd) (hl : Cond.methodLink own idx yd.1 ∈ hgd)
    (hdp : yd.2.2.2.2 + 1 ≤ d) (hnp : As.length = np) (hL : L.length = nL) (hst : st' = As.reverse ++ st) (hcat : (st.map fun v => v.category).sum ≤ 8) (hnm : n ≤ nm)
    (kk : hG z n0 X n M R (pc + 3) L (vo.toList ++ st)) : hG z n0 X n M R pc L st' := by
  intro H locs ls h1 h2 h3
  subst hst
  have h0 := hn_le hC h1 h2
  refine gx_after (yd := yd) (As := As) (mc := 0) (ms := 0) rfl (va_runS (As := As) (rest := st) (n := np) ⟨hC.1, hC.2.1, hC.2.2.1, hC.2.2.2.1, hC.2.2.2.2.1⟩ hct ⟨hCallB hC hY hdp hl, hC.2.2.2.2.1 _ hV⟩
    ⟨Scr.blind, fun U hU hW => ⟨rfl, hWo hC h1 h2 U hU hW, ⟨?_, hbz⟩, ?_⟩⟩ rfl hnp (by show ls.size = _; rw [h3.1, hL]) rfl (lv_room hcat) hd (hCellOk hC h0 (Nat.le_refl n) hnm)) h2 h0 (Nat.le_refl n) h3 kk
  · rw [hU]; exact Nat.lt_of_lt_of_le hbl h2.1
  · rw [hU]
    exact (hX.kept (h2.2.1 b hbl (show ¬ z.1 ≤ b by omega))).moved hW.alike
/-- a number of the script, or one that stands for it -/
def cV (xs : Nat → Int32) (Ls k : Nat) : Int32 := (if k < Ls then xs k else 15485827 * nI k + 109) &&& 2147483647
theorem cV_n (xs : Nat → Int32) (Ls k : Nat) : ∃ a, a < 2 ^ 31 ∧ cV xs Ls k = nI a := pk_andE _ 31 (by decide)
end LR
