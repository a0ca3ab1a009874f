/-! the base: the heap from an address B on as a memory by offset and slot -/
abbrev hZt : Type := Nat × (Nat → Nat) × va_G × (Nat → ClassId)
abbrev hMem : Type := Nat → Nat → Int32
abbrev hRef : Type := Nat → Nat → Nat
def up2 {α : Type} (M : Nat → Nat → α) (a k : Nat) (x : α) : Nat → Nat → α := fun b j => if b = a ∧ j = k then x else M b j
abbrev hcl : List vw_C := [(RX0, TX0, 8), (RX1, TX1, 2), (RX3, TX3, 2), (RX4, TX4, 16), (RX5, TX5, 8), (RX6, TX6, 5)]
def hN (ci : Nat) : Nat := match ci with
  | 0 => 8
  | 1 => 2
  | 2 => 2
  | 3 => 16
  | 4 => 8
  | 5 => 5
  | _ => 15
/-- what a slot holds: 0 a number, 1 a truth value, 2 a character, 3 a kind, 4 a reference -/
def sty (ci k : Nat) : Nat := match ci, k with
  | 0, 1 => 3
  | 0, 6 => 1
  | 1, 0 => 4
  | 2, _ => 4
  | 3, 0 => 4
  | 3, 1 => 4
  | 3, 6 => 1
  | 3, 7 => 1
  | 4, 0 => 4
  | 4, 4 => 2
  | 4, 5 => 3
  | 5, _ => 4
  | 6, 0 => 4
  | 6, 1 => 4
  | 6, 3 => 4
  | 6, 4 => 4
  | 6, 5 => 4
  | 6, 6 => 4
  | 6, 9 => 4
  | 6, 10 => 4
  | 6, 11 => 4
  | 6, 12 => 4
  | _, _ => 0
def kv (ek : Nat → Nat) (x : Int32) : Value := if x = 0 then .ref (ek 0) else if x = 1 then .ref (ek 1) else if x = 2 then .ref (ek 2) else .null
def rv (B o : Nat) : Value := if o = 0 then .null else .ref (B + o)
def sv (z : hZt) (t : Nat) (x : Int32) (o : Nat) : Value := if t = 4 then rv z.1 o else if t = 3 then kv z.2.1 x else .int x
def obv (z : hZt) (ci : Nat) (f : Nat → Int32) (r : Nat → Nat) : List Value := (List.range (hN ci)).map fun k => sv z (sty ci k) (f k) (r k)
/-- which cell stands at an offset: (0, class), (1, n) ints, (2, n) truth values, (3, n) characters, (4, n) aircraft, (5, n) states -/
def tyS (j : Nat) : Nat × Nat := if j = 0 then (0, 3) else if j = 1 then (4, 20) else if j = 2 then (1, 16) else (0, 0)
def ty (i : Nat) : Nat × Nat :=
  if i = 0 then (0, 5) else if i < 47 then tyS ((i - 1) % 23) else if i = 47 then (0, 1) else if i = 48 then (5, 5)
  else if i < 164 then tyS ((i - 49) % 23) else if i = 164 then (0, 2) else if i = 165 then (5, 2) else if i = 166 then (2, 2)
  else if i < 213 then tyS ((i - 167) % 23) else if i = 213 then (0, 4) else if i = 214 then (3, 80) else if i = 215 then (0, 6)
  else if i = 216 then (1, 154) else if i = 217 then (1, 770) else if i = 218 then (1, 154) else if i = 219 then (1, 308)
  else if i = 220 then (2, 2) else if i = 221 then (1, 80) else if i = 222 then (1, 4) else (1, 3)
def ent (z : hZt) (t : Nat × Nat) (f : Nat → Int32) (r : Nat → Nat) : va_E :=
  if t.1 = 0 then .inr (t.2, obv z t.2 f r)
  else if t.1 ≤ 3 then .inl (z.2.2.2 t.1, t.2, .inl f)
  else .inl (z.2.2.2 t.1, t.2, .inr (.inr (.inr (.inr fun j => if r j = 0 then none else some (z.1 + r j)))))
def wl (z : hZt) (n : Nat) (M : hMem) (R : hRef) : va_W := (List.range n).map fun i => (z.1 + i, ent z (ty i) (M i) (R i))
def Wfc (t : Nat × Nat) (f : Nat → Int32) : Prop :=
  (t.1 = 0 → ∀ k, k < hN t.2 → (sty t.2 k = 1 → f k = 0 ∨ f k = 1) ∧ (sty t.2 k = 2 → ∃ q, q < 65536 ∧ f k = nI q)) ∧
  (t.1 = 2 → ∀ k, k < t.2 → f k = 0 ∨ f k = 1) ∧ (t.1 = 3 → ∀ k, k < t.2 → ∃ q, q < 65536 ∧ f k = nI q)
def Wf (n : Nat) (M : hMem) : Prop := ∀ i, i < n → Wfc (ty i) (M i)
abbrev tyl (z : hZt) : List (ClassId × FieldType) := [(z.2.2.2 1, .int), (z.2.2.2 2, .boolean), (z.2.2.2 3, .char), (z.2.2.2 4, .object RX0), (z.2.2.2 5, .object RX4)]
def kFd : List (String × String × String × List Int32) := [("HoldingStack$Kind", "number", "I", [0, 1, 2]), ("HoldingStack$Kind", "rate", "I", [4, 9, 18]), ("HoldingStack$Kind", "reserve", "I", [40, 100, 220]), ("HoldingStack$Kind", "wake", "I", [2, 3, 4])]
def kNm : List String := ["LIGHT", "MEDIUM", "HEAVY"]
abbrev hA (z : hZt) : Nat → Prop := fun q => z.1 ≤ q
def Fx (z : hZt) (U : State) (H : Heap) : Prop :=
  va_K z.2.2.1 hcl (tyl z) U ∧ va_En "HoldingStack$Kind" "LHoldingStack$Kind;" kNm kFd z.2.1 (hA z) U H ∧ va_Nw (.methodLinkNest RX6 35 yX5_init RX6) U ∧ va_AO RX0 U ∧ va_AO RX4 U
def Hp (z : hZt) (n : Nat) (M : hMem) (R : hRef) (H : Heap) : Prop := va_P z.2.2.1 hcl (wl z n M R) H ∧ H.size = z.1 + n ∧ Wf n M
def Wo (z : hZt) (n : Nat) (M : hMem) (R : hRef) (U : State) : Prop := Fx z U U.heap ∧ Hp z n M R U.heap
def tsz (t : Nat × Nat) : Nat := if t.1 = 0 then hN t.2 else t.2
def slt : Nat → Nat
  | 0 => 0
  | n + 1 => slt n + tsz (ty n)
theorem slt_le (a k : Nat) : slt a ≤ slt (a + k) := by
  induction k with
  | zero => exact Nat.le_refl _
  | succ k ih => exact Nat.le_trans ih (by show _ ≤ slt (a + k) + _; omega)
theorem slt_mono {a b : Nat} (h : a ≤ b) : slt a ≤ slt b := by
  obtain ⟨k, rfl⟩ := Nat.exists_eq_add_of_le h
  exact slt_le a k
/-- the words of the tables that ride into every method -/
def hgd : List Cond := lw_tbl.filter goodWord
theorem hgd_at {w : Cond} (i : Nat) (h : lw_tbl[i]? = some w) (hg : goodWord w = true) : w ∈ hgd := List.mem_filter.mpr ⟨List.mem_of_getElem? h, hg⟩
abbrev hYd : Type := MethodName × ByteArray × Nat × Option FieldType × Nat
abbrev hws (y : hYd) : List Cond := .code y.1 y.2.1 y.2.2.1 y.2.2.2.1 :: hgd
abbrev hrm (y : hYd) (k s : Nat) : Room := { frames := y.2.2.2.2, cells := k, slots := s, locals := 34 * y.2.2.2.2 }
abbrev hQc (z : hZt) (n2 : Nat) (v : Option Value) (M2 : hMem) (R2 : hRef) : Array Value → State → Outcome → State → Prop := fun _ st oc t => oc = .returned v ∧ Wo z n2 M2 R2 t ∧ va_F (hA z) st t
/-- a method's contract: from the memory M it returns v, and leaves the memory M2 -/
def hCt (l : Launch) (z : hZt) (y : hYd) (av : List Value) (n : Nat) (M : hMem) (R : hRef) (n2 : Nat) (v : Option Value) (M2 : hMem) (R2 : hRef) : Prop :=
  Met l y.1 (hws y) (hrm y (n2 - n) (slt n2 - slt n)) (va_Pc av (Wo z n M R)) (hQc z n2 v M2 R2) (n2 - n) (slt n2 - slt n) (hA z)
abbrev hXt : Type := (Program × Launch × Env × Room × State × MethodId × Array Value) × (List Frame × Method × Code) × (State → Prop)
abbrev Wx (X : hXt) (H : Heap) (locs : List Loc) (ce sl : Nat) (g : JFrame) : Prop := W X.1.1 X.1.2.1 X.1.2.2.1 X.1.2.2.2.1 X.1.2.2.2.2.1 X.1.2.2.2.2.2.1 X.1.2.2.2.2.2.2 X.2.1.1 X.2.1.2.1 X.2.1.2.2 H locs ce sl X.2.2 g
def lh (ls : Array Slot) (L : List (Option Value)) : Prop := ls.size = L.length ∧ lv_wf ls ∧ ∀ (i : Nat) (v : Value), L[i]? = some (some v) → ls[i]? = some (.val v)
/-- the walk stands at pc, with the locals L and the stack st, over the memory M of n cells -/
def hG (z : hZt) (n0 : Nat) (X : hXt) (n : Nat) (M : hMem) (R : hRef) (pc : Nat) (L : List (Option Value)) (st : List Value) : Prop :=
  ∀ (H : Heap) (locs : List Loc) (ls : Array Slot), Hp z n M R H → va_S (hA z) X.1.2.2.2.2.1.heap H locs → lh ls L →
    Wx X H locs (n - n0) (slt n - slt n0) (F0 X.1.2.2.2.2.2.1 pc ls st)
def hOk (z : hZt) (n0 : Nat) (X : hXt) (cc : ByteArray) (own : String) (nL d nm : Nat) : Prop :=
  X.1.1.tables.exec = Jvm.exec ∧ X.2.1.2.2.code = cc ∧ X.2.1.2.2.maxLocals = nL ∧ X.1.2.2.2.2.1.vm.findClass own = some X.1.2.2.2.2.2.1.cls ∧
  (∀ w ∈ hgd, w.before X.1.2.2.2.2.2.2 X.1.2.2.2.2.1 = true) ∧ Fx z X.1.2.2.2.2.1 X.1.2.2.2.2.1.heap ∧ d ≤ X.1.2.2.2.1.frames ∧ 34 * d ≤ X.1.2.2.2.1.locals ∧
  X.1.2.2.2.2.1.heap.size = z.1 + n0 ∧ n0 ≤ nm ∧ nm - n0 ≤ X.1.2.2.2.1.cells ∧ slt nm - slt n0 ≤ X.1.2.2.2.1.slots
/-- what the walk has to come to -/
def hRq (z : hZt) (n0 : Nat) (X : hXt) (n2 : Nat) (v : Option Value) (M2 : hMem) (R2 : hRef) (rt : Option FieldType) : Prop :=
  X.2.2 = MQ X.2.1.1 (hQc z n2 v M2 R2) X.1.2.2.2.2.2.2 X.1.2.2.2.2.1 (n2 - n0) (slt n2 - slt n0) (hA z) ∧ X.2.1.2.1.sig.returnType = rt ∧ X.2.1.2.1.locks = false
