/-! the law's strips, read and carried out -/
theorem sl_e {k fu le : Nat} {rest : List Nat} : sL k fu le ++ rest = 43 :: kl k :: (dg fu ++ (64 :: (dg le ++ rest))) := by
  unfold sL
  rw [List.cons_append, List.cons_append, List.append_assoc, List.cons_append]
theorem g_2 {a b : Nat} {xs : List Nat} {i : Nat} : (a :: b :: xs).getD (2 + i) 0 = xs.getD i 0 := by rw [Nat.add_comm]; rfl
theorem sl_f {k fu le i : Nat} {rest : List Nat} (hi : i < (dg fu).length) : (sL k fu le ++ rest).getD (2 + i) 0 = (dg fu).getD i 0 := by
  rw [sl_e, g_2, getD_l hi]
theorem sl_a {k fu le : Nat} {rest : List Nat} : (sL k fu le ++ rest).getD (2 + (dg fu).length) 0 = 64 := by
  rw [sl_e, g_2]
  have := getD_r (xs := dg fu) (ys := 64 :: (dg le ++ rest)) (p := 0)
  rw [Nat.add_zero] at this
  rw [this]
  rfl
theorem sl_s {k fu le i : Nat} {rest : List Nat} : (sL k fu le ++ rest).getD (3 + (dg fu).length + i) 0 = (dg le ++ rest).getD i 0 := by
  rw [sl_e, show 3 + (dg fu).length + i = 2 + ((dg fu).length + (i + 1)) by omega, g_2, getD_r]
  rfl
theorem sl_l {k fu le i : Nat} {rest : List Nat} (hi : i < (dg le).length) : (sL k fu le ++ rest).getD (3 + (dg fu).length + i) 0 = (dg le).getD i 0 := by rw [sl_s, getD_l hi]
theorem sl_r {k fu le i : Nat} {rest : List Nat} : (sL k fu le ++ rest).getD ((sL k fu le).length + i) 0 = rest.getD i 0 := getD_r
section ST
variable {M : hMem} {k fu le L : Nat} {rest : List Nat}
theorem kl_3 (hk : k < 3) : kl k = 108 ∧ k = 0 ∨ kl k = 109 ∧ k = 1 ∨ kl k = 104 ∧ k = 2 := by
  rcases (show k = 0 ∨ k = 1 ∨ k = 2 by omega) with rfl | rfl | rfl
  · exact Or.inl ⟨rfl, rfl⟩
  · exact Or.inr (Or.inl ⟨rfl, rfl⟩)
  · exact Or.inr (Or.inr ⟨rfl, rfl⟩)
theorem fu_in (h1 : 1 ≤ fu) (hf : fu ≤ 999) : bIn (nI fu) 1 9999 = true := decide_eq_true ⟨nI_le2 (a := 1) (by decide) (by omega) h1, nI_le2 (b := 9999) (by omega) (by decide) (by omega)⟩
theorem le_in (hl : le ≤ 15) : bIn (nI le) 0 15 = true := decide_eq_true ⟨nI_le2 (a := 0) (by decide) (by omega) (Nat.zero_le _), nI_le2 (b := 15) (by omega) (by decide) hl⟩
/-- the first strip -/
theorem sb_sl (h : TX M (sL k fu le ++ 59 :: rest)) (hk : k < 3) (h1 : 1 ≤ fu) (hf : fu ≤ 999) (hl : le ≤ 15) (hL : (sL k fu le ++ 59 :: rest).length = L) :
    mSb (M 214) L 0 = (true, (sL k fu le).length) ∧ (∀ tt, mSk (M 214) L tt 0 = upd (upd (upd (upd tt 0 0) 1 (nI k)) 2 (nI fu)) 3 (nI le)) ∧ mTk (M 214) L (sL k fu le).length 59 = true ∧ (sL k fu le).length < L := by
  have hs := sL_l (k := k) (fu := fu) (le := le)
  have d1 := dg_l (n := fu)
  have d2 := dg_l (n := le)
  have hlen : (sL k fu le).length + (1 + rest.length) = L := by rw [← hL, List.length_append, List.length_cons]; omega
  have e0 : M 214 0 = nI 43 := h.at (p := 0) (by omega)
  have e1 : M 214 1 = nI (kl k) := h.at (p := 1) (by omega)
  have ea : M 214 (2 + (dg fu).length) = nI 64 := by rw [h.at (by omega), sl_a]
  have er : M 214 (sL k fu le).length = nI 59 := by
    have := h.at (p := (sL k fu le).length) (by omega)
    rw [this]
    have e := sl_r (k := k) (fu := fu) (le := le) (rest := 59 :: rest) (i := 0)
    rw [Nat.add_zero] at e
    rw [e]
    rfl
  have nf : mNu (M 214) L 2 = some (nI fu, 2 + (dg fu).length) := nu_dg (by omega) (fun i hi => by rw [h.at (by omega), sl_f hi]) (by omega) (dg_no (by omega) ea (Or.inr (by decide)))
  have nl : mNu (M 214) L (3 + (dg fu).length) = some (nI le, 3 + (dg fu).length + (dg le).length) := nu_dg (by omega) (fun i hi => by rw [h.at (by omega), sl_l hi]) (by omega) (by
    rw [← hs]
    exact dg_no (by omega) er (Or.inr (by decide)))
  have b1 := fu_in h1 hf
  have b2 := le_in hl
  have t0 : mTk (M 214) L 0 43 = true := tk_t (by omega) e0
  have kd : mKd (M 214) L 1 = nI k := by
    unfold mKd
    rw [he_in (by omega), e1]
    rcases kl_3 hk with ⟨e, rfl⟩ | ⟨e, rfl⟩ | ⟨e, rfl⟩
    · rw [e]; decide
    · rw [e]; decide
    · rw [e]; decide
  have n6 : ¬ nI k = -6 := nI_n6 (by omega)
  have i1 : mIs (M 214) L 2 1 9999 = true := (is_dg nf).trans b1
  have p1 : mIp (M 214) L 2 1 9999 = 2 + (dg fu).length := ip_dg nf b1
  have t1 : mTk (M 214) L (2 + (dg fu).length) 64 = true := tk_t (by omega) ea
  have e3 : 2 + (dg fu).length + 1 = 3 + (dg fu).length := by omega
  have i2 : mIs (M 214) L (3 + (dg fu).length) 0 15 = true := (is_dg nl).trans b2
  have p2 : mIp (M 214) L (3 + (dg fu).length) 0 15 = 3 + (dg fu).length + (dg le).length := ip_dg nl b2
  refine ⟨?_, fun tt => ?_, tk_t (by omega) er, by omega⟩
  · unfold mSb
    rw [if_pos t0, show 0 + 1 = 1 from rfl, show 0 + 2 = 2 from rfl, kd, if_neg n6, i1, if_neg (by decide), p1, t1, if_neg (by decide), e3, i2, p2, hs]
  · unfold mSk
    rw [if_pos t0, show 0 + 1 = 1 from rfl, show 0 + 2 = 2 from rfl, kd, if_neg n6, i1, if_neg (by decide), p1, t1, if_neg (by decide), e3, it_dg nl, it_dg nf]
/-- a strip that is not finished, or has no good number -/
theorem sb_t {t : Nat → Int32} {p : Nat} (hp : p < L) (e : t p = nI 116) : mSb t L p = (mIs t L (p + 1) 1 99, mIp t L (p + 1) 1 99) ∧ ∀ tt, mSk t L tt p = mIt t L (p + 1) (upd tt 0 2) 1 := by
  have a1 : mTk t L p 43 = false := tk_f (f := 43) hp e (by decide) (by decide) (by decide)
  have a2 : mTk t L p 99 = false := tk_f (f := 99) hp e (by decide) (by decide) (by decide)
  have a3 : mTk t L p 116 = true := tk_t hp e
  refine ⟨?_, fun tt => ?_⟩
  · unfold mSb
    rw [a1, if_neg (by decide), a2, if_neg (by decide), if_pos a3]
  · unfold mSk
    rw [a1, if_neg (by decide), a2, if_neg (by decide), if_pos a3]
theorem tx_1 (h : TX M (sL k fu le ++ 59 :: rest)) (hk : k < 3) (h1 : 1 ≤ fu) (hf : fu ≤ 999) (hl : le ≤ 15) (hL : (sL k fu le ++ 59 :: rest).length = L) : mTx (M 214) L 81 0 = mTx (M 214) L 80 ((sL k fu le).length + 1) := by
  obtain ⟨s1, s2, s3, s4⟩ := sb_sl h hk h1 hf hl hL
  show mTx (M 214) L (80 + 1) 0 = _
  rw [mTx, if_neg (by omega), s1, if_neg (show ¬ true = false by decide)]
  dsimp only
  rw [s3, if_neg (show ¬ true = false by decide)]
theorem at_r (h : TX M (sL k fu le ++ rest)) {i : Nat} (hi : i < rest.length) : M 214 ((sL k fu le).length + i) = nI (rest.getD i 0) := by
  rw [h.at (by rw [List.length_append]; omega), sl_r]
theorem fx_a (h : TX M (sL k fu le ++ [59, 116])) (hk : k < 3) (h1 : 1 ≤ fu) (hf : fu ≤ 999) (hl : le ≤ 15) : mTx (M 214) ((sL k fu le).length + 2) 81 0 = (false, (sL k fu le).length + 2) := by
  rw [tx_1 h hk h1 hf hl (by rw [List.length_append]; rfl)]
  have e : M 214 ((sL k fu le).length + 1) = nI 116 := at_r h (i := 1) (by decide)
  have s := (sb_t (L := (sL k fu le).length + 2) (by omega) e).1
  have nn : mNu (M 214) ((sL k fu le).length + 2) ((sL k fu le).length + 1 + 1) = none := by
    unfold mNu
    rw [dg_end (by omega), if_pos (by decide)]
  have i1 : mIs (M 214) ((sL k fu le).length + 2) ((sL k fu le).length + 1 + 1) 1 99 = false := by unfold mIs; rw [nn]
  have p1 : mIp (M 214) ((sL k fu le).length + 2) ((sL k fu le).length + 1 + 1) 1 99 = (sL k fu le).length + 1 + 1 := by unfold mIp; rw [nn]
  rw [i1, p1] at s
  show mTx (M 214) ((sL k fu le).length + 2) (79 + 1) ((sL k fu le).length + 1) = _
  rw [mTx, if_neg (by omega), s, if_pos rfl]
theorem fx_b (h : TX M (sL k fu le ++ [59, 116, 48])) (hk : k < 3) (h1 : 1 ≤ fu) (hf : fu ≤ 999) (hl : le ≤ 15) : mTx (M 214) ((sL k fu le).length + 3) 81 0 = (false, (sL k fu le).length + 2) := by
  rw [tx_1 h hk h1 hf hl (by rw [List.length_append]; rfl)]
  have e : M 214 ((sL k fu le).length + 1) = nI 116 := at_r h (i := 1) (by decide)
  have e2 : M 214 ((sL k fu le).length + 1 + 1) = nI (48 + 0) := at_r h (i := 2) (by decide)
  have s := (sb_t (L := (sL k fu le).length + 3) (by omega) e).1
  have nn : mNu (M 214) ((sL k fu le).length + 3) ((sL k fu le).length + 1 + 1) = some (nI 0, (sL k fu le).length + 1 + 1 + 1) := by
    unfold mNu
    rw [dg_in (d := 0) (by omega) e2 (by decide), if_neg (by decide), if_pos (by decide)]
  have i1 : mIs (M 214) ((sL k fu le).length + 3) ((sL k fu le).length + 1 + 1) 1 99 = false := (is_dg nn).trans (show bIn (nI 0) 1 99 = false by decide)
  have p1 : mIp (M 214) ((sL k fu le).length + 3) ((sL k fu le).length + 1 + 1) 1 99 = (sL k fu le).length + 1 + 1 := ip_f nn (show bIn (nI 0) 1 99 = false by decide)
  rw [i1, p1] at s
  show mTx (M 214) ((sL k fu le).length + 3) (79 + 1) ((sL k fu le).length + 1) = _
  rw [mTx, if_neg (by omega), s, if_pos rfl]
/-- the good text -/
def gT (k fu le m : Nat) : List Nat := sL k fu le ++ 59 :: (116 :: (dg m ++ [59]))
theorem gT_l {m : Nat} : (gT k fu le m).length = (sL k fu le).length + 2 + (dg m).length + 1 := by
  unfold gT
  rw [List.length_append, List.length_cons, List.length_cons, List.length_append]
  show _ + ((dg m).length + 1 + 1 + 1) = _
  omega
theorem fx_c {m : Nat} (h : TX M (gT k fu le m)) (hm1 : 1 ≤ m) (hm : m ≤ 99) : mSb (M 214) ((sL k fu le).length + 2 + (dg m).length + 1) ((sL k fu le).length + 1) = (true, (sL k fu le).length + 2 + (dg m).length) ∧
    (∀ tt, mSk (M 214) ((sL k fu le).length + 2 + (dg m).length + 1) tt ((sL k fu le).length + 1) = upd (upd tt 0 2) 1 (nI m)) ∧ mTk (M 214) ((sL k fu le).length + 2 + (dg m).length + 1) ((sL k fu le).length + 2 + (dg m).length) 59 = true := by
  have e : M 214 ((sL k fu le).length + 1) = nI 116 := at_r h (i := 1) (by show 1 < _ + 1 + 1; omega)
  have d1 := dg_l (n := m)
  have ht : ∀ i, M 214 ((sL k fu le).length + 1 + 1 + i) = nI ((dg m ++ [59]).getD i 0) ∨ ¬ i < (dg m).length + 1 := fun i => by
    by_cases hi : i < (dg m).length + 1
    · left
      have := at_r h (i := i + 2) (by rw [List.length_cons, List.length_cons, List.length_append]; show i + 2 < (dg m).length + 1 + 1 + 1; omega)
      rw [show (sL k fu le).length + 1 + 1 + i = (sL k fu le).length + (i + 2) by omega, this]
      rfl
    · exact Or.inr hi
  have e9 : M 214 ((sL k fu le).length + 1 + 1 + (dg m).length) = nI 59 := by
    rcases ht (dg m).length with q | q
    · rw [q]
      have := getD_r (xs := dg m) (ys := [59]) (p := 0)
      rw [Nat.add_zero] at this
      rw [this]
      rfl
    · omega
  have s := sb_t (t := M 214) (L := (sL k fu le).length + 2 + (dg m).length + 1) (p := (sL k fu le).length + 1) (by omega) e
  have nn : mNu (M 214) ((sL k fu le).length + 2 + (dg m).length + 1) ((sL k fu le).length + 1 + 1) = some (nI m, (sL k fu le).length + 1 + 1 + (dg m).length) := nu_dg (by omega) (fun i hi => by
    rcases ht i with q | q
    · rw [q, getD_l hi]
    · omega) (by omega) (dg_no (by omega) e9 (Or.inr (by decide)))
  have bm : bIn (nI m) 1 99 = true := decide_eq_true ⟨nI_le2 (a := 1) (by decide) (by omega) hm1, nI_le2 (b := 99) (by omega) (by decide) hm⟩
  refine ⟨?_, fun tt => ?_, tk_t (by omega) (by rw [← e9])⟩
  · rw [s.1, is_dg nn, ip_dg nn bm, bm]
  · rw [s.2, it_dg nn]
theorem fx_g {m : Nat} (h : TX M (gT k fu le m)) (hk : k < 3) (h1 : 1 ≤ fu) (hf : fu ≤ 999) (hl : le ≤ 15) (hm1 : 1 ≤ m) (hm : m ≤ 99) : (mTx (M 214) ((sL k fu le).length + 2 + (dg m).length + 1) 81 0).1 = true := by
  rw [tx_1 h hk h1 hf hl gT_l]
  obtain ⟨s1, s2, s3⟩ := fx_c h hm1 hm
  show (mTx (M 214) _ (79 + 1) ((sL k fu le).length + 1)).1 = true
  rw [mTx, if_neg (by omega), s1, if_neg (show ¬ true = false by decide)]
  dsimp only
  rw [s3, if_neg (show ¬ true = false by decide)]
  show (mTx (M 214) _ (78 + 1) ((sL k fu le).length + 2 + (dg m).length + 1)).1 = true
  rw [mTx, if_pos (Nat.le_refl _)]
theorem mEn_13u {v : Nat → Int32} {c : Nat} {x fu y r : Int32} : mEn (upd v 13 r) c x fu y = mEn v c x fu y := by
  funext i
  by_cases h : i = 13
  · subst h; rw [mEn_13, mEn_13]
  · unfold mEn
    have e9 : upd v 13 r 9 = v 9 := upd_n (by decide)
    rw [e9]
    unfold upd
    (repeat' split) <;> first | rfl | omega
/-- the strips carried out: one is refused, or both go -/
theorem ru_2 {m lv c : Nat} {v : Nat → Int32} (h : TX M (gT k fu le m)) (hk : k < 3) (h1 : 1 ≤ fu) (hf : fu ≤ 999) (hl : le ≤ 15) (hm1 : 1 ≤ m) (hm : m ≤ 99) :
    (mEw v (nI k) (nI fu) (nI le) < 0 → mRu (M 214) ((sL k fu le).length + 2 + (dg m).length + 1) lv 81 0 (fun _ => 0) v c 0 = (0, v, c, upd (upd (upd (upd (fun _ => 0) 0 0) 1 (nI k)) 2 (nI fu)) 3 (nI le), (sL k fu le).length + 1)) ∧
    (¬ mEw v (nI k) (nI fu) (nI le) < 0 → 0 < mRf v c (nI k) (nI fu) (nI le) → mRu (M 214) ((sL k fu le).length + 2 + (dg m).length + 1) lv 81 0 (fun _ => 0) v c 0 = (0, upd v 13 (mRf v c (nI k) (nI fu) (nI le)), c, upd (upd (upd (upd (fun _ => 0) 0 0) 1 (nI k)) 2 (nI fu)) 3 (nI le), (sL k fu le).length + 1)) ∧
    (¬ mEw v (nI k) (nI fu) (nI le) < 0 → ¬ 0 < mRf v c (nI k) (nI fu) (nI le) → (mRu (M 214) ((sL k fu le).length + 2 + (dg m).length + 1) lv 81 0 (fun _ => 0) v c 0).1 = 2 ∧ (mRu (M 214) ((sL k fu le).length + 2 + (dg m).length + 1) lv 81 0 (fun _ => 0) v c 0).2.1 = mGo (mEn v c (nI k) (nI fu) (nI le)) lv (c + 1) m ∧
      (mRu (M 214) ((sL k fu le).length + 2 + (dg m).length + 1) lv 81 0 (fun _ => 0) v c 0).2.2.1 = c + 1) := by
  obtain ⟨s1, s2, s3, s4⟩ := sb_sl h hk h1 hf hl gT_l
  obtain ⟨u1, u2, u3⟩ := fx_c h hm1 hm
  generalize hr : upd (upd (upd (upd (fun _ => 0) 0 0) 1 (nI k)) 2 (nI fu)) 3 (nI le) = r1 at *
  have r0 : r1 0 = 0 := by rw [← hr]; rfl
  have r1' : r1 1 = nI k := by rw [← hr]; rfl
  have r2 : r1 2 = nI fu := by rw [← hr]; rfl
  have r3 : r1 3 = nI le := by rw [← hr]; rfl
  have hs2 : mSk (M 214) ((sL k fu le).length + 2 + (dg m).length + 1) (fun _ => 0) 0 = r1 := by rw [s2, hr]
  have step : mRu (M 214) ((sL k fu le).length + 2 + (dg m).length + 1) lv 81 0 (fun _ => 0) v c 0 = if (mCo v lv c r1).1 = true then mRu (M 214) ((sL k fu le).length + 2 + (dg m).length + 1) lv 80 ((sL k fu le).length + 1) r1 (mCo v lv c r1).2.1 (mCo v lv c r1).2.2 1
      else (0, (mCo v lv c r1).2.1, (mCo v lv c r1).2.2, r1, (sL k fu le).length + 1) := by
    show mRu (M 214) _ lv (80 + 1) 0 (fun _ => 0) v c 0 = _
    rw [mRu, if_neg (by omega), hs2, s1]
  rw [step]
  have co : mCo v lv c r1 = if mEw v (nI k) (nI fu) (nI le) < 0 then (false, v, c) else if 0 < mRf v c (nI k) (nI fu) (nI le) then (false, upd v 13 (mRf v c (nI k) (nI fu) (nI le)), c)
      else (true, mEn (upd v 13 (mRf v c (nI k) (nI fu) (nI le))) c (nI k) (nI fu) (nI le), c + 1) := by
    unfold mCo
    rw [if_pos r0, r1', r2, r3]
  refine ⟨fun a => ?_, fun a b => ?_, fun a b => ?_⟩
  · rw [if_pos a] at co
    rw [co, if_neg (show ¬ false = true by decide)]
  · rw [if_neg a, if_pos b] at co
    rw [co, if_neg (show ¬ false = true by decide)]
  · rw [if_neg a, if_neg b, mEn_13u] at co
    rw [co, if_pos rfl]
    have st2 : mRu (M 214) ((sL k fu le).length + 2 + (dg m).length + 1) lv 80 ((sL k fu le).length + 1) r1 (mEn v c (nI k) (nI fu) (nI le)) (c + 1) 1 = (2, mGo (mEn v c (nI k) (nI fu) (nI le)) lv (c + 1) m, c + 1, upd (upd r1 0 2) 1 (nI m), (sL k fu le).length + 2 + (dg m).length + 1) := by
      show mRu (M 214) _ lv (79 + 1) _ r1 _ _ 1 = _
      have co2 : mCo (mEn v c (nI k) (nI fu) (nI le)) lv (c + 1) (upd (upd r1 0 2) 1 (nI m)) = (true, mGo (mEn v c (nI k) (nI fu) (nI le)) lv (c + 1) m, c + 1) := by
        have q0 : upd (upd r1 0 2) 1 (nI m) 0 = 2 := rfl
        have q1 : upd (upd r1 0 2) 1 (nI m) 1 = nI m := upd_s
        unfold mCo
        rw [q0, q1, if_neg (by decide), if_neg (by decide), if_pos rfl, nI_clamp (by omega)]
      rw [mRu, if_neg (by omega), u2, co2, if_pos rfl, u1]
      show mRu (M 214) _ lv (78 + 1) ((sL k fu le).length + 2 + (dg m).length + 1) _ _ _ 2 = _
      rw [mRu, if_pos (Nat.le_refl _)]
    rw [st2]
    exact ⟨rfl, rfl, rfl⟩
end ST
