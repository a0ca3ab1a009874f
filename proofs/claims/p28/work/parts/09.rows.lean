section HR
variable {z : hZt} {n0 n nm nL d pc i k : Nat} {X : hXt} {cc : ByteArray} {own : String} {M M' M2 : hMem} {R R' R2 : hRef} {L L' : List (Option Value)} {st : List Value} {x y v : Int32} {a b : Int64} {w w2 : Value} {tgt : Nat} {off : Int}
theorem gx_iconst (hC : hOk z n0 X cc own nL d nm) {c : Int} (hd : decode cc pc = .ok (.iconst c, 1)) (hv : Int32.ofInt c = v) (k : hG z n0 X n M R (pc + 1) L (.int v :: st)) : hG z n0 X n M R pc L st :=
  fun H locs ls h1 h2 h3 => lv_iconst hC.1 hC.2.1 hd hv (k H locs ls h1 h2 h3)
theorem gx_bipush (hC : hOk z n0 X cc own nL d nm) {c : Int} (hd : decode cc pc = .ok (.bipush c, 2)) (hv : (Int8.ofInt c).toInt32 = v) (k : hG z n0 X n M R (pc + 2) L (.int v :: st)) : hG z n0 X n M R pc L st :=
  fun H locs ls h1 h2 h3 => lv_bipush hC.1 hC.2.1 hd hv (k H locs ls h1 h2 h3)
theorem gx_sipush (hC : hOk z n0 X cc own nL d nm) {c : Int} (hd : decode cc pc = .ok (.sipush c, 3)) (hv : (Int16.ofInt c).toInt32 = v) (k : hG z n0 X n M R (pc + 3) L (.int v :: st)) : hG z n0 X n M R pc L st :=
  fun H locs ls h1 h2 h3 => lv_sipush hC.1 hC.2.1 hd hv (k H locs ls h1 h2 h3)
theorem gx_aconst_null (hC : hOk z n0 X cc own nL d nm) (hd : decode cc pc = .ok (.aconst_null, 1)) (k : hG z n0 X n M R (pc + 1) L (.null :: st)) : hG z n0 X n M R pc L st :=
  fun H locs ls h1 h2 h3 => lv_null hC.1 hC.2.1 hd (k H locs ls h1 h2 h3)
theorem gx_ldc2_w (hC : hOk z n0 X cc own nL d nm) {c : Nat} (hd : decode cc pc = .ok (.ldc2_w c, 3)) (hw : Cond.constantLong own c a ∈ hgd) (k : hG z n0 X n M R (pc + 3) L (.long a :: st)) : hG z n0 X n M R pc L st :=
  fun H locs ls h1 h2 h3 => lv_ldc2 hC.1 hC.2.1 hC.2.2.2.1 (hC.2.2.2.2.1 _ hw) hd (k H locs ls h1 h2 h3)
theorem gx_iload_n (hC : hOk z n0 X cc own nL d nm) {f : Fin 4} (hd : decode cc pc = .ok (.iload_n f, 1)) (hf : (f : Nat) = i) (hl : L[i]? = some (some (.int x))) (k : hG z n0 X n M R (pc + 1) L (.int x :: st)) : hG z n0 X n M R pc L st :=
  fun H locs ls h1 h2 h3 => lv_iload_n hC.1 hC.2.1 hd hf (h3.2.2 _ _ hl) (k H locs ls h1 h2 h3)
theorem gx_iload (hC : hOk z n0 X cc own nL d nm) (hd : decode cc pc = .ok (.iload i, 2)) (hl : L[i]? = some (some (.int x))) (k : hG z n0 X n M R (pc + 2) L (.int x :: st)) : hG z n0 X n M R pc L st :=
  fun H locs ls h1 h2 h3 => lv_iload hC.1 hC.2.1 hd (h3.2.2 _ _ hl) (k H locs ls h1 h2 h3)
theorem gx_lload_n (hC : hOk z n0 X cc own nL d nm) {f : Fin 4} (hd : decode cc pc = .ok (.lload_n f, 1)) (hf : (f : Nat) = i) (hl : L[i]? = some (some (.long a))) (k : hG z n0 X n M R (pc + 1) L (.long a :: st)) : hG z n0 X n M R pc L st :=
  fun H locs ls h1 h2 h3 => lv_lload_n hC.1 hC.2.1 hd hf (h3.2.2 _ _ hl) (k H locs ls h1 h2 h3)
def isR (w : Value) : Prop := w = .null ∨ ∃ q, w = .ref q
theorem kv_isR {ek : Nat → Nat} {x : Int32} : isR (kv ek x) := by unfold kv; split; exact Or.inr ⟨_, rfl⟩; split; exact Or.inr ⟨_, rfl⟩; split; exact Or.inr ⟨_, rfl⟩; exact Or.inl rfl
theorem rv_isR {B o : Nat} : isR (rv B o) := by unfold rv; split; exact Or.inl rfl; exact Or.inr ⟨_, rfl⟩
theorem isR_cat {w : Value} (h : isR w) : w.category = 1 := by rcases h with rfl | ⟨q, rfl⟩ <;> rfl
theorem gx_aload_n (hC : hOk z n0 X cc own nL d nm) {f : Fin 4} (hd : decode cc pc = .ok (.aload_n f, 1)) (hf : (f : Nat) = i) (hl : L[i]? = some (some w)) (hw : isR w) (k : hG z n0 X n M R (pc + 1) L (w :: st)) : hG z n0 X n M R pc L st :=
  fun H locs ls h1 h2 h3 => by
  rcases hw with rfl | ⟨q, rfl⟩
  · exact lv_aload_nN hC.1 hC.2.1 hd hf (h3.2.2 _ _ hl) (k H locs ls h1 h2 h3)
  · exact lv_aload_n hC.1 hC.2.1 hd hf (h3.2.2 _ _ hl) (k H locs ls h1 h2 h3)
theorem gx_aload (hC : hOk z n0 X cc own nL d nm) (hd : decode cc pc = .ok (.aload i, 2)) (hl : L[i]? = some (some w)) (hw : isR w) (k : hG z n0 X n M R (pc + 2) L (w :: st)) : hG z n0 X n M R pc L st :=
  fun H locs ls h1 h2 h3 => by
  rcases hw with rfl | ⟨q, rfl⟩
  · exact lv_aloadN hC.1 hC.2.1 hd (h3.2.2 _ _ hl) (k H locs ls h1 h2 h3)
  · exact lv_aload hC.1 hC.2.1 hd (h3.2.2 _ _ hl) (k H locs ls h1 h2 h3)
def lA (L : List (Option Value)) : List (Nat × Value) := (List.range L.length).filterMap fun i => (L[i]?.join).map fun v => (i, v)
theorem lA_mem {L : List (Option Value)} {q : Nat × Value} : q ∈ lA L ↔ L[q.1]? = some (some q.2) := by
  unfold lA
  rw [List.mem_filterMap]
  constructor
  · rintro ⟨i, -, h⟩
    obtain ⟨v, h1, rfl⟩ := Option.map_eq_some_iff.mp h
    exact Option.join_eq_some_iff.mp h1
  · intro h
    refine ⟨q.1, List.mem_range.mpr (List.getElem?_eq_some_iff.mp h).1, ?_⟩
    rw [h]; rfl
theorem lh_A {ls : Array Slot} {L : List (Option Value)} (h : lh ls L) : lv_has ls L.length (lA L) := ⟨h.1, h.2.1, fun q hq => h.2.2 _ _ (lA_mem.mp hq)⟩
theorem lh_st {ls : Array Slot} {L L' : List (Option Value)} {i : Nat} {w : Value} (hl : L.set i (some w) = L') (hc : ∀ u, L[i - 1]? = some (some u) → i = 0 ∨ u.category = 1)
    (h : lv_has ls L.length ((i, w) :: (lA L).filter (fun q => !(q.1 == i) && !(q.1 + 1 == i && q.2.category == 2)))) : lh ls L' := by
  subst hl
  refine ⟨by rw [List.length_set]; exact h.1, h.2.1, fun j v hj => ?_⟩
  by_cases e : j = i
  · subst e
    rw [List.getElem?_set_self (by have := (List.getElem?_eq_some_iff.mp hj).1; simpa using this)] at hj
    cases hj
    exact h.2.2 _ List.mem_cons_self
  · rw [List.getElem?_set_ne (Ne.symm e)] at hj
    refine h.2.2 (j, v) (List.mem_cons_of_mem _ (List.mem_filter.mpr ⟨lA_mem.mpr hj, ?_⟩))
    simp only [Bool.and_eq_true, Bool.not_eq_true', beq_eq_false_iff_ne, ne_eq, Bool.and_eq_false_iff]
    refine ⟨e, ?_⟩
    by_cases e2 : j + 1 = i
    · subst e2
      rcases hc v (by simpa using hj) with h0 | h0
      · omega
      · right; omega
    · exact Or.inl e2
theorem lh_st2 {ls : Array Slot} {L L' : List (Option Value)} {i : Nat} {w : Value} (hl : (L.set i (some w)).set (i + 1) none = L') (hc : ∀ u, L[i - 1]? = some (some u) → i = 0 ∨ u.category = 1)
    (h : lv_has ls L.length ((i, w) :: (lA L).filter (fun q => !(q.1 == i) && (!(q.1 == i + 1) && !(q.1 + 1 == i && q.2.category == 2))))) : lh ls L' := by
  subst hl
  refine ⟨by rw [List.length_set, List.length_set]; exact h.1, h.2.1, fun j v hj => ?_⟩
  by_cases e1 : j = i + 1
  · subst e1
    have hlen := (List.getElem?_eq_some_iff.mp hj).1
    rw [List.getElem?_set_self (by simpa using hlen)] at hj
    cases hj
  rw [List.getElem?_set_ne (Ne.symm e1)] at hj
  by_cases e : j = i
  · subst e
    rw [List.getElem?_set_self (by have := (List.getElem?_eq_some_iff.mp hj).1; simpa using this)] at hj
    cases hj
    exact h.2.2 _ List.mem_cons_self
  · rw [List.getElem?_set_ne (Ne.symm e)] at hj
    refine h.2.2 (j, v) (List.mem_cons_of_mem _ (List.mem_filter.mpr ⟨lA_mem.mpr hj, ?_⟩))
    simp only [Bool.and_eq_true, Bool.not_eq_true', beq_eq_false_iff_ne, ne_eq, Bool.and_eq_false_iff]
    refine ⟨e, e1, ?_⟩
    by_cases e2 : j + 1 = i
    · subst e2
      rcases hc v (by simpa using hj) with h0 | h0
      · omega
      · right; omega
    · exact Or.inl e2
theorem gx_istore_n (hC : hOk z n0 X cc own nL d nm) {f : Fin 4} (hd : decode cc pc = .ok (.istore_n f, 1)) (hf : (f : Nat) = i) (hi : i < L.length) (hl : L.set i (some (.int x)) = L') (hc : ∀ u, L[i - 1]? = some (some u) → i = 0 ∨ u.category = 1) (k : hG z n0 X n M R (pc + 1) L' st) : hG z n0 X n M R pc L (.int x :: st) :=
  fun H locs ls h1 h2 h3 => lv_istore_n hC.1 hC.2.1 hd hf (lh_A h3) hi rfl (fun ls' h9 => k H locs ls' h1 h2 (lh_st hl hc h9))
theorem gx_istore (hC : hOk z n0 X cc own nL d nm) (hd : decode cc pc = .ok (.istore i, 2)) (hi : i < L.length) (hl : L.set i (some (.int x)) = L') (hc : ∀ u, L[i - 1]? = some (some u) → i = 0 ∨ u.category = 1) (k : hG z n0 X n M R (pc + 2) L' st) : hG z n0 X n M R pc L (.int x :: st) :=
  fun H locs ls h1 h2 h3 => lv_istore hC.1 hC.2.1 hd (lh_A h3) hi rfl (fun ls' h9 => k H locs ls' h1 h2 (lh_st hl hc h9))
theorem gx_astore_n (hC : hOk z n0 X cc own nL d nm) {f : Fin 4} (hd : decode cc pc = .ok (.astore_n f, 1)) (hf : (f : Nat) = i) (hi : i < L.length) (hl : L.set i (some w) = L') (hc : ∀ u, L[i - 1]? = some (some u) → i = 0 ∨ u.category = 1) (hw : isR w) (k : hG z n0 X n M R (pc + 1) L' st) : hG z n0 X n M R pc L (w :: st) :=
  fun H locs ls h1 h2 h3 => by
  rcases hw with rfl | ⟨q, rfl⟩
  · exact lv_astore_nN hC.1 hC.2.1 hd hf (lh_A h3) hi rfl (fun ls' h9 => k H locs ls' h1 h2 (lh_st hl hc h9))
  · exact lv_astore_n hC.1 hC.2.1 hd hf (lh_A h3) hi rfl (fun ls' h9 => k H locs ls' h1 h2 (lh_st hl hc h9))
theorem gx_astore (hC : hOk z n0 X cc own nL d nm) (hd : decode cc pc = .ok (.astore i, 2)) (hi : i < L.length) (hl : L.set i (some w) = L') (hc : ∀ u, L[i - 1]? = some (some u) → i = 0 ∨ u.category = 1) (hw : isR w) (k : hG z n0 X n M R (pc + 2) L' st) : hG z n0 X n M R pc L (w :: st) :=
  fun H locs ls h1 h2 h3 => by
  rcases hw with rfl | ⟨q, rfl⟩
  · exact lv_astoreN hC.1 hC.2.1 hd (lh_A h3) hi rfl (fun ls' h9 => k H locs ls' h1 h2 (lh_st hl hc h9))
  · exact lv_astore hC.1 hC.2.1 hd (lh_A h3) hi rfl (fun ls' h9 => k H locs ls' h1 h2 (lh_st hl hc h9))
theorem gx_lstore_n (hC : hOk z n0 X cc own nL d nm) {f : Fin 4} (hd : decode cc pc = .ok (.lstore_n f, 1)) (hf : (f : Nat) = i) (hi : i + 1 < L.length) (hl : (L.set i (some (.long a))).set (i + 1) none = L') (hc : ∀ u, L[i - 1]? = some (some u) → i = 0 ∨ u.category = 1) (k : hG z n0 X n M R (pc + 1) L' st) : hG z n0 X n M R pc L (.long a :: st) :=
  fun H locs ls h1 h2 h3 => lv_lstore_n hC.1 hC.2.1 hd hf (lh_A h3) hi rfl (fun ls' h9 => k H locs ls' h1 h2 (lh_st2 hl hc h9))
theorem lA_get {L : List (Option Value)} {i : Nat} {w : Value} (h : L[i]? = some (some w)) : ∃ k : Nat, (lA L)[k]? = some (i, w) := List.getElem?_of_mem (lA_mem.mpr h)
theorem gx_iinc (hC : hOk z n0 X cc own nL d nm) {c : Int} (hd : decode cc pc = .ok (.iinc i c, 3)) (hg : L[i]? = some (some (.int x))) (hv : x + Int32.ofInt c = v) (hi : i < L.length) (hl : L.set i (some (.int v)) = L') (hc : ∀ u, L[i - 1]? = some (some u) → i = 0 ∨ u.category = 1) (k : hG z n0 X n M R (pc + 3) L' st) : hG z n0 X n M R pc L st :=
  fun H locs ls h1 h2 h3 => (lA_get hg).elim fun j hj => lv_iinc hC.1 hC.2.1 hd (lh_A h3) hj hv hi rfl (fun ls' h9 => k H locs ls' h1 h2 (lh_st hl hc h9))
theorem gx_iadd (hC : hOk z n0 X cc own nL d nm) (hd : decode cc pc = .ok (.iadd, 1)) (k : hG z n0 X n M R (pc + 1) L (.int (x + y) :: st)) : hG z n0 X n M R pc L (.int y :: .int x :: st) :=
  fun H locs ls h1 h2 h3 => lv_iadd hC.1 hC.2.1 hd (k H locs ls h1 h2 h3)
theorem gx_isub (hC : hOk z n0 X cc own nL d nm) (hd : decode cc pc = .ok (.isub, 1)) (k : hG z n0 X n M R (pc + 1) L (.int (x - y) :: st)) : hG z n0 X n M R pc L (.int y :: .int x :: st) :=
  fun H locs ls h1 h2 h3 => lv_isub hC.1 hC.2.1 hd (k H locs ls h1 h2 h3)
theorem gx_imul (hC : hOk z n0 X cc own nL d nm) (hd : decode cc pc = .ok (.imul, 1)) (k : hG z n0 X n M R (pc + 1) L (.int (x * y) :: st)) : hG z n0 X n M R pc L (.int y :: .int x :: st) :=
  fun H locs ls h1 h2 h3 => lv_imul hC.1 hC.2.1 hd (k H locs ls h1 h2 h3)
theorem gx_iand (hC : hOk z n0 X cc own nL d nm) (hd : decode cc pc = .ok (.iand, 1)) (k : hG z n0 X n M R (pc + 1) L (.int (x &&& y) :: st)) : hG z n0 X n M R pc L (.int y :: .int x :: st) :=
  fun H locs ls h1 h2 h3 => lv_iand hC.1 hC.2.1 hd (k H locs ls h1 h2 h3)
theorem gx_idiv (hC : hOk z n0 X cc own nL d nm) (hd : decode cc pc = .ok (.idiv, 1)) (hne : ¬ y = 0) (k : hG z n0 X n M R (pc + 1) L (.int (x / y) :: st)) : hG z n0 X n M R pc L (.int y :: .int x :: st) :=
  fun H locs ls h1 h2 h3 => lv_idiv hC.1 hC.2.1 hd hne (k H locs ls h1 h2 h3)
theorem gx_ladd (hC : hOk z n0 X cc own nL d nm) (hd : decode cc pc = .ok (.ladd, 1)) (k : hG z n0 X n M R (pc + 1) L (.long (a + b) :: st)) : hG z n0 X n M R pc L (.long b :: .long a :: st) :=
  fun H locs ls h1 h2 h3 => lv_ladd hC.1 hC.2.1 hd (k H locs ls h1 h2 h3)
theorem gx_lmul (hC : hOk z n0 X cc own nL d nm) (hd : decode cc pc = .ok (.lmul, 1)) (k : hG z n0 X n M R (pc + 1) L (.long (a * b) :: st)) : hG z n0 X n M R pc L (.long b :: .long a :: st) :=
  fun H locs ls h1 h2 h3 => lv_lmul hC.1 hC.2.1 hd (k H locs ls h1 h2 h3)
theorem gx_i2l (hC : hOk z n0 X cc own nL d nm) (hd : decode cc pc = .ok (.i2l, 1)) (k : hG z n0 X n M R (pc + 1) L (.long x.toInt64 :: st)) : hG z n0 X n M R pc L (.int x :: st) :=
  fun H locs ls h1 h2 h3 => lv_i2l hC.1 hC.2.1 hd rfl (k H locs ls h1 h2 h3)
theorem gx_i2c (hC : hOk z n0 X cc own nL d nm) (hd : decode cc pc = .ok (.i2c, 1)) (hv : (x.toUInt32 % 65536).toInt32 = v) (k : hG z n0 X n M R (pc + 1) L (.int v :: st)) : hG z n0 X n M R pc L (.int x :: st) :=
  fun H locs ls h1 h2 h3 => lv_i2c hC.1 hC.2.1 hd (by first | exact hv | (rw [← hv]; rfl) | (rw [← pk_vc]; exact hv)) (k H locs ls h1 h2 h3)
theorem gx_dup (hC : hOk z n0 X cc own nL d nm) (hd : decode cc pc = .ok (.dup, 1)) (hw : w.category = 1) (k : hG z n0 X n M R (pc + 1) L (w :: w :: st)) : hG z n0 X n M R pc L (w :: st) :=
  fun H locs ls h1 h2 h3 => lv_dup hC.1 hC.2.1 hd hw (k H locs ls h1 h2 h3)
theorem gx_pop (hC : hOk z n0 X cc own nL d nm) (hd : decode cc pc = .ok (.pop, 1)) (hw : w.category = 1) (k : hG z n0 X n M R (pc + 1) L st) : hG z n0 X n M R pc L (w :: st) :=
  fun H locs ls h1 h2 h3 => lv_pop hC.1 hC.2.1 hd hw (k H locs ls h1 h2 h3)
theorem gx_dup2 (hC : hOk z n0 X cc own nL d nm) (hd : decode cc pc = .ok (.dup2, 1)) (hw : w.category = 1) (hw2 : w2.category = 1) (k : hG z n0 X n M R (pc + 1) L (w :: w2 :: w :: w2 :: st)) : hG z n0 X n M R pc L (w :: w2 :: st) :=
  fun H locs ls h1 h2 h3 => lv_dup2_11 hC.1 hC.2.1 hd hw hw2 (k H locs ls h1 h2 h3)
theorem gx_if_eq (hC : hOk z n0 X cc own nL d nm) (hd : decode cc pc = .ok (.ifCond .eq off, 3)) (ht : (pc : Int) + off = (tgt : Int)) (kt : x = 0 → hG z n0 X n M R tgt L st) (kf : ¬ x = 0 → hG z n0 X n M R (pc + 3) L st) : hG z n0 X n M R pc L (.int x :: st) :=
  fun H locs ls h1 h2 h3 => lv_if_eq hC.1 hC.2.1 hd ht (fun c => kt c H locs ls h1 h2 h3) (fun c => kf c H locs ls h1 h2 h3)
theorem gx_icmp_eq (hC : hOk z n0 X cc own nL d nm) (hd : decode cc pc = .ok (.if_icmp .eq off, 3)) (ht : (pc : Int) + off = (tgt : Int)) (kt : x = y → hG z n0 X n M R tgt L st) (kf : ¬ x = y → hG z n0 X n M R (pc + 3) L st) : hG z n0 X n M R pc L (.int y :: .int x :: st) :=
  fun H locs ls h1 h2 h3 => lv_icmp_eq hC.1 hC.2.1 hd ht (fun c => kt c H locs ls h1 h2 h3) (fun c => kf c H locs ls h1 h2 h3)
theorem gx_if_ne (hC : hOk z n0 X cc own nL d nm) (hd : decode cc pc = .ok (.ifCond .ne off, 3)) (ht : (pc : Int) + off = (tgt : Int)) (kt : ¬ x = 0 → hG z n0 X n M R tgt L st) (kf : x = 0 → hG z n0 X n M R (pc + 3) L st) : hG z n0 X n M R pc L (.int x :: st) :=
  fun H locs ls h1 h2 h3 => lv_if_ne hC.1 hC.2.1 hd ht (fun c => kt c H locs ls h1 h2 h3) (fun c => kf c H locs ls h1 h2 h3)
theorem gx_icmp_ne (hC : hOk z n0 X cc own nL d nm) (hd : decode cc pc = .ok (.if_icmp .ne off, 3)) (ht : (pc : Int) + off = (tgt : Int)) (kt : ¬ x = y → hG z n0 X n M R tgt L st) (kf : x = y → hG z n0 X n M R (pc + 3) L st) : hG z n0 X n M R pc L (.int y :: .int x :: st) :=
  fun H locs ls h1 h2 h3 => lv_icmp_ne hC.1 hC.2.1 hd ht (fun c => kt c H locs ls h1 h2 h3) (fun c => kf c H locs ls h1 h2 h3)
theorem gx_if_lt (hC : hOk z n0 X cc own nL d nm) (hd : decode cc pc = .ok (.ifCond .lt off, 3)) (ht : (pc : Int) + off = (tgt : Int)) (kt : x < 0 → hG z n0 X n M R tgt L st) (kf : ¬ x < 0 → hG z n0 X n M R (pc + 3) L st) : hG z n0 X n M R pc L (.int x :: st) :=
  fun H locs ls h1 h2 h3 => lv_if_lt hC.1 hC.2.1 hd ht (fun c => kt c H locs ls h1 h2 h3) (fun c => kf c H locs ls h1 h2 h3)
theorem gx_icmp_lt (hC : hOk z n0 X cc own nL d nm) (hd : decode cc pc = .ok (.if_icmp .lt off, 3)) (ht : (pc : Int) + off = (tgt : Int)) (kt : x < y → hG z n0 X n M R tgt L st) (kf : ¬ x < y → hG z n0 X n M R (pc + 3) L st) : hG z n0 X n M R pc L (.int y :: .int x :: st) :=
  fun H locs ls h1 h2 h3 => lv_icmp_lt hC.1 hC.2.1 hd ht (fun c => kt c H locs ls h1 h2 h3) (fun c => kf c H locs ls h1 h2 h3)
theorem gx_if_ge (hC : hOk z n0 X cc own nL d nm) (hd : decode cc pc = .ok (.ifCond .ge off, 3)) (ht : (pc : Int) + off = (tgt : Int)) (kt : 0 ≤ x → hG z n0 X n M R tgt L st) (kf : ¬ 0 ≤ x → hG z n0 X n M R (pc + 3) L st) : hG z n0 X n M R pc L (.int x :: st) :=
  fun H locs ls h1 h2 h3 => lv_if_ge hC.1 hC.2.1 hd ht (fun c => kt c H locs ls h1 h2 h3) (fun c => kf c H locs ls h1 h2 h3)
theorem gx_icmp_ge (hC : hOk z n0 X cc own nL d nm) (hd : decode cc pc = .ok (.if_icmp .ge off, 3)) (ht : (pc : Int) + off = (tgt : Int)) (kt : y ≤ x → hG z n0 X n M R tgt L st) (kf : ¬ y ≤ x → hG z n0 X n M R (pc + 3) L st) : hG z n0 X n M R pc L (.int y :: .int x :: st) :=
  fun H locs ls h1 h2 h3 => lv_icmp_ge hC.1 hC.2.1 hd ht (fun c => kt c H locs ls h1 h2 h3) (fun c => kf c H locs ls h1 h2 h3)
theorem gx_if_gt (hC : hOk z n0 X cc own nL d nm) (hd : decode cc pc = .ok (.ifCond .gt off, 3)) (ht : (pc : Int) + off = (tgt : Int)) (kt : 0 < x → hG z n0 X n M R tgt L st) (kf : ¬ 0 < x → hG z n0 X n M R (pc + 3) L st) : hG z n0 X n M R pc L (.int x :: st) :=
  fun H locs ls h1 h2 h3 => lv_if_gt hC.1 hC.2.1 hd ht (fun c => kt c H locs ls h1 h2 h3) (fun c => kf c H locs ls h1 h2 h3)
theorem gx_icmp_gt (hC : hOk z n0 X cc own nL d nm) (hd : decode cc pc = .ok (.if_icmp .gt off, 3)) (ht : (pc : Int) + off = (tgt : Int)) (kt : y < x → hG z n0 X n M R tgt L st) (kf : ¬ y < x → hG z n0 X n M R (pc + 3) L st) : hG z n0 X n M R pc L (.int y :: .int x :: st) :=
  fun H locs ls h1 h2 h3 => lv_icmp_gt hC.1 hC.2.1 hd ht (fun c => kt c H locs ls h1 h2 h3) (fun c => kf c H locs ls h1 h2 h3)
theorem gx_if_le (hC : hOk z n0 X cc own nL d nm) (hd : decode cc pc = .ok (.ifCond .le off, 3)) (ht : (pc : Int) + off = (tgt : Int)) (kt : x ≤ 0 → hG z n0 X n M R tgt L st) (kf : ¬ x ≤ 0 → hG z n0 X n M R (pc + 3) L st) : hG z n0 X n M R pc L (.int x :: st) :=
  fun H locs ls h1 h2 h3 => lv_if_le hC.1 hC.2.1 hd ht (fun c => kt c H locs ls h1 h2 h3) (fun c => kf c H locs ls h1 h2 h3)
theorem gx_icmp_le (hC : hOk z n0 X cc own nL d nm) (hd : decode cc pc = .ok (.if_icmp .le off, 3)) (ht : (pc : Int) + off = (tgt : Int)) (kt : x ≤ y → hG z n0 X n M R tgt L st) (kf : ¬ x ≤ y → hG z n0 X n M R (pc + 3) L st) : hG z n0 X n M R pc L (.int y :: .int x :: st) :=
  fun H locs ls h1 h2 h3 => lv_icmp_le hC.1 hC.2.1 hd ht (fun c => kt c H locs ls h1 h2 h3) (fun c => kf c H locs ls h1 h2 h3)
def b2 (e : Bool) : Int32 := match e with
  | true => 1
  | false => 0
theorem b2_0 {e : Bool} : b2 e = 0 ↔ e = false := by cases e <;> decide
theorem b2_bit (e : Bool) : b2 e = 0 ∨ b2 e = 1 := by cases e; exact Or.inl rfl; exact Or.inr rfl
theorem gx_ifb_eq (hC : hOk z n0 X cc own nL d nm) {e : Bool} (hd : decode cc pc = .ok (.ifCond .eq off, 3)) (ht : (pc : Int) + off = (tgt : Int)) (kt : e = false → hG z n0 X n M R tgt L st) (kf : e = true → hG z n0 X n M R (pc + 3) L st) : hG z n0 X n M R pc L (.int (b2 e) :: st) :=
  gx_if_eq hC hd ht (fun c => kt (b2_0.mp c)) (fun c => kf (by cases e; exact absurd rfl c; rfl))
theorem gx_ifb_ne (hC : hOk z n0 X cc own nL d nm) {e : Bool} (hd : decode cc pc = .ok (.ifCond .ne off, 3)) (ht : (pc : Int) + off = (tgt : Int)) (kt : e = true → hG z n0 X n M R tgt L st) (kf : e = false → hG z n0 X n M R (pc + 3) L st) : hG z n0 X n M R pc L (.int (b2 e) :: st) :=
  gx_if_ne hC hd ht (fun c => kt (by cases e; exact absurd rfl c; rfl)) (fun c => kf (by cases e; rfl; exact absurd c (by decide)))
theorem gx_goto (hC : hOk z n0 X cc own nL d nm) (hd : decode cc pc = .ok (.goto off, 3)) (ht : (pc : Int) + off = (tgt : Int)) (k : hG z n0 X n M R tgt L st) : hG z n0 X n M R pc L st :=
  fun H locs ls h1 h2 h3 => lv_goto hC.1 hC.2.1 hd ht (k H locs ls h1 h2 h3)
theorem gx_ifnull_ref (hC : hOk z n0 X cc own nL d nm) {q : Nat} (hd : decode cc pc = .ok (.ifnull off, 3)) (k : hG z n0 X n M R (pc + 3) L st) : hG z n0 X n M R pc L (.ref q :: st) :=
  fun H locs ls h1 h2 h3 => lv_ifnull hC.1 hC.2.1 hd (k H locs ls h1 h2 h3)
theorem gx_ifnull_null (hC : hOk z n0 X cc own nL d nm) (hd : decode cc pc = .ok (.ifnull off, 3)) (ht : (pc : Int) + off = (tgt : Int)) (k : hG z n0 X n M R tgt L st) : hG z n0 X n M R pc L (.null :: st) :=
  fun H locs ls h1 h2 h3 => lv_ifnullN hC.1 hC.2.1 hd ht (k H locs ls h1 h2 h3)
theorem gx_ifnonnull_ref (hC : hOk z n0 X cc own nL d nm) {q : Nat} (hd : decode cc pc = .ok (.ifnonnull off, 3)) (ht : (pc : Int) + off = (tgt : Int)) (k : hG z n0 X n M R tgt L st) : hG z n0 X n M R pc L (.ref q :: st) :=
  fun H locs ls h1 h2 h3 => lv_ifnonnull hC.1 hC.2.1 hd ht (k H locs ls h1 h2 h3)
theorem gx_ifnonnull_null (hC : hOk z n0 X cc own nL d nm) (hd : decode cc pc = .ok (.ifnonnull off, 3)) (k : hG z n0 X n M R (pc + 3) L st) : hG z n0 X n M R pc L (.null :: st) :=
  fun H locs ls h1 h2 h3 => lv_ifnonnullN hC.1 hC.2.1 hd (k H locs ls h1 h2 h3)
def hk (x : Int32) : Prop := x = 0 ∨ x = 1 ∨ x = 2
theorem kv_some {ek : Nat → Nat} {x : Int32} (h : hk x) : ∃ j, j < 3 ∧ x = nI j ∧ kv ek x = .ref (ek j) := by
  rcases h with rfl | rfl | rfl
  · exact ⟨0, by decide, rfl, by simp [kv]⟩
  · exact ⟨1, by decide, rfl, by simp [kv]⟩
  · exact ⟨2, by decide, rfl, by simp [kv]⟩
theorem kv_none {ek : Nat → Nat} {x : Int32} (h : ¬ hk x) : kv ek x = .null := by
  unfold hk at h
  have h1 : ¬ x = 0 := fun e => h (Or.inl e)
  have h2 : ¬ x = 1 := fun e => h (Or.inr (Or.inl e))
  have h3 : ¬ x = 2 := fun e => h (Or.inr (Or.inr e))
  simp [kv, h1, h2, h3]
theorem gx_ifnull_kv (hC : hOk z n0 X cc own nL d nm) (hd : decode cc pc = .ok (.ifnull off, 3)) (ht : (pc : Int) + off = (tgt : Int)) (kt : ¬ hk x → hG z n0 X n M R tgt L st) (kf : hk x → hG z n0 X n M R (pc + 3) L st) : hG z n0 X n M R pc L (kv z.2.1 x :: st) := by
  by_cases h : hk x
  · obtain ⟨j, -, -, e⟩ := kv_some (ek := z.2.1) h
    rw [e]; exact gx_ifnull_ref hC hd (kf h)
  · rw [kv_none h]; exact gx_ifnull_null hC hd ht (kt h)
theorem gx_ifnonnull_kv (hC : hOk z n0 X cc own nL d nm) (hd : decode cc pc = .ok (.ifnonnull off, 3)) (ht : (pc : Int) + off = (tgt : Int)) (kt : hk x → hG z n0 X n M R tgt L st) (kf : ¬ hk x → hG z n0 X n M R (pc + 3) L st) : hG z n0 X n M R pc L (kv z.2.1 x :: st) := by
  by_cases h : hk x
  · obtain ⟨j, -, -, e⟩ := kv_some (ek := z.2.1) h
    rw [e]; exact gx_ifnonnull_ref hC hd ht (kt h)
  · rw [kv_none h]; exact gx_ifnonnull_null hC hd (kf h)
end HR
