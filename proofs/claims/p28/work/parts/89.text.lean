/-! the law's texts: what is appended, and how it is read -/
def apL (M : hMem) (ln : Nat) : List Nat → hMem
  | [] => M
  | x :: xs => apL (aM M ln (nI x)) (ln + 1) xs
theorem aM_o {M : hMem} {ln a k : Nat} {x : Int32} (h1 : a ≠ 213) (h2 : a ≠ 214) : aM M ln x a k = M a k := by
  unfold aM
  rw [up2_off (fun e => h1 e.1), up2_off (fun e => h2 e.1)]
theorem apL_o {a k : Nat} (h1 : a ≠ 213) (h2 : a ≠ 214) : ∀ (xs : List Nat) (M : hMem) (ln : Nat), apL M ln xs a k = M a k
  | [], _, _ => rfl
  | x :: xs, M, ln => by rw [apL, apL_o h1 h2 xs, aM_o h1 h2]
theorem apL_app : ∀ (xs ys : List Nat) (M : hMem) (ln : Nat), apL M ln (xs ++ ys) = apL (apL M ln xs) (ln + xs.length) ys
  | [], ys, M, ln => rfl
  | x :: xs, ys, M, ln => by
    rw [List.cons_append, apL, apL_app xs ys, apL, List.length_cons, show ln + 1 + xs.length = ln + (xs.length + 1) by omega]
theorem apL_l : ∀ (xs : List Nat) (M : hMem) (ln : Nat), M 213 1 = nI ln → apL M ln xs 213 1 = nI (ln + xs.length)
  | [], _, _, h => h
  | x :: xs, M, ln, h => by
    rw [apL, apL_l xs (aM M ln (nI x)) (ln + 1) up2_same, List.length_cons, show ln + 1 + xs.length = ln + (xs.length + 1) by omega]
/-- the text holds these characters -/
def TX (M : hMem) (cs : List Nat) : Prop := M 213 1 = nI cs.length ∧ ∀ p, p < cs.length → M 214 p = nI (cs.getD p 0)
theorem getD_l {xs ys : List Nat} {p : Nat} (h : p < xs.length) : (xs ++ ys).getD p 0 = xs.getD p 0 := by
  simp only [List.getD_eq_getElem?_getD]
  rw [List.getElem?_append_left h]
theorem getD_r {xs ys : List Nat} {p : Nat} : (xs ++ ys).getD (xs.length + p) 0 = ys.getD p 0 := by
  simp only [List.getD_eq_getElem?_getD]
  rw [List.getElem?_append_right (Nat.le_add_right _ _), Nat.add_sub_cancel_left]
theorem TX.one {M : hMem} {cs : List Nat} {x : Nat} (h : TX M cs) : TX (aM M cs.length (nI x)) (cs ++ [x]) := by
  have hl : (cs ++ [x]).length = cs.length + 1 := by rw [List.length_append]; rfl
  refine ⟨?_, fun p hp => ?_⟩
  · rw [hl]; exact up2_same
  · rw [hl] at hp
    unfold aM
    rw [up2_off (fun e => absurd e.1 (by decide))]
    by_cases e : p = cs.length
    · subst e
      rw [up2_same]
      have := getD_r (xs := cs) (ys := [x]) (p := 0)
      rw [Nat.add_zero] at this
      rw [this]
      rfl
    · rw [up2_off (fun q => e q.2), getD_l (by omega)]
      exact h.2 p (by omega)
theorem TX.app : ∀ (xs : List Nat) {M : hMem} {cs : List Nat}, TX M cs → TX (apL M cs.length xs) (cs ++ xs)
  | [], M, cs, h => by rw [List.append_nil]; exact h
  | x :: xs, M, cs, h => by
    have h1 := TX.app xs (h.one (x := x))
    rw [List.length_append, List.append_assoc] at h1
    exact h1
theorem TX.at {M : hMem} {cs : List Nat} (h : TX M cs) {p : Nat} (hp : p < cs.length) : M 214 p = nI (cs.getD p 0) := h.2 p hp
theorem PI.txt {M N : hMem} {R : hRef} {v : gRow} {lv c q : Nat} {H : Nat → gRow} {K : Nat → Option gRow} (h : PI M R v lv c q H K) (e : ∀ a k, a ≠ 213 → a ≠ 214 → N a k = M a k) : PI N R v lv c q H K := by
  refine h.same (fun a k h1 h2 => e a k (by omega) (by omega)) ?_ ?_
  · rw [getS_eq (fun i k hi => e _ _ (by omega) (by omega))]; exact h.a24
  · rw [getS_eq (fun i k hi => e _ _ (by omega) (by omega))]; exact h.rl
theorem PI.apl {M : hMem} {R : hRef} {v : gRow} {lv c q ln : Nat} {H : Nat → gRow} {K : Nat → Option gRow} (h : PI M R v lv c q H K) (xs : List Nat) : PI (apL M ln xs) R v lv c q H K := h.txt (fun a k h1 h2 => apL_o h1 h2 xs M ln)
def dg (n : Nat) : List Nat := if n < 10 then [48 + n] else if n < 100 then [48 + n / 10, 48 + n % 10] else [48 + n / 100, 48 + n / 10 % 10, 48 + n % 10]
theorem dg_1 {n : Nat} (h : n < 10) : dg n = [48 + n] := if_pos h
theorem dg_2 {n : Nat} (h : 10 ≤ n) (h2 : n < 100) : dg n = [48 + n / 10, 48 + n % 10] := by unfold dg; rw [if_neg (by omega), if_pos h2]
theorem dg_3 {n : Nat} (h : 100 ≤ n) : dg n = [48 + n / 100, 48 + n / 10 % 10, 48 + n % 10] := by unfold dg; rw [if_neg (by omega), if_neg (by omega)]
theorem dg_l {n : Nat} : 1 ≤ (dg n).length ∧ (dg n).length ≤ 3 := by
  unfold dg
  (repeat' split) <;> exact ⟨Nat.le_of_ble_eq_true rfl, Nat.le_of_ble_eq_true rfl⟩
theorem dg_l2 {n : Nat} (h : n < 100) : (dg n).length ≤ 2 := by
  by_cases h1 : n < 10
  · rw [dg_1 h1]; exact Nat.le_of_ble_eq_true rfl
  · rw [dg_2 (by omega) h]; exact Nat.le_of_ble_eq_true rfl
def kl (k : Nat) : Nat := if k = 0 then 108 else if k = 1 then 109 else 104
/-- a strip that enters -/
def sL (k fu le : Nat) : List Nat := 43 :: kl k :: (dg fu ++ 64 :: dg le)
theorem sL_l {k fu le : Nat} : (sL k fu le).length = 3 + (dg fu).length + (dg le).length := by
  unfold sL
  rw [List.length_cons, List.length_cons, List.length_append, List.length_cons]
  omega
/-! reading a digit, a number -/
section RD
variable {t : Nat → Int32} {L p n : Nat}
theorem he_in (h : p < L) : mHe t L p = t p := if_pos h
theorem he_out (h : L ≤ p) : mHe t L p = -1 := if_neg (by omega)
theorem bIn_c {e a b : Nat} (he : e < 2 ^ 31) (hb : b < 2 ^ 31) (ha : a < 2 ^ 31) : bIn (nI e) (nI a) (nI b) = decide (a ≤ e ∧ e ≤ b) := by
  unfold bIn
  rw [decide_eq_decide, nI_leI ha he, nI_leI he hb]
theorem dg_in {d : Nat} (h : p < L) (e : t p = nI (48 + d)) (hd : d ≤ 9) : mDg t L p = nI d := by
  unfold mDg
  rw [he_in h, e, show bIn (nI (48 + d)) 48 57 = true from by rw [show (48 : Int32) = nI 48 from rfl, show (57 : Int32) = nI 57 from rfl, bIn_c (by omega) (by decide) (by decide)]; exact decide_eq_true (by omega), if_pos rfl]
  rw [show (48 : Int32) = nI 48 from rfl, nI_sub (by omega), show 48 + d - 48 = d by omega]
theorem dg_no {e : Nat} (h : p < L) (ht : t p = nI e) (he : e < 48 ∨ (57 < e ∧ e < 200)) : mDg t L p = -1 := by
  unfold mDg
  rw [he_in h, ht, show bIn (nI e) 48 57 = false from by rw [show (48 : Int32) = nI 48 from rfl, show (57 : Int32) = nI 57 from rfl, bIn_c (by omega) (by decide) (by decide)]; exact decide_eq_false (by omega), if_neg (by decide)]
theorem dg_end (h : L ≤ p) : mDg t L p = -1 := by
  unfold mDg
  rw [he_out h]
  rfl
/-- what stands at p is no digit -/
def nD (t : Nat → Int32) (L p : Nat) : Prop := mDg t L p = -1
theorem nl_0 {x : Int32} {f : Nat} (h : nD t L p) : mNl t L (f + 1) p x = (x, p) := by
  rw [mNl, h, if_pos (by decide)]
theorem nl_s {f d a : Nat} (h : p < L) (e : t p = nI (48 + d)) (hd : d ≤ 9) : mNl t L (f + 1) p (nI a) = mNl t L f (p + 1) (nI (10 * a + d)) := by
  rw [mNl, dg_in h e hd, if_neg (nI_pos (by omega)), show (10 : Int32) = nI 10 from rfl, pk_mul, nI_add]
theorem nu_s {d : Nat} (h : p < L) (e : t p = nI (48 + d)) (hd : d ≤ 9) (h1 : 1 ≤ d) : mNu t L p = some (mNl t L 3 (p + 1) (nI d)) := by
  unfold mNu
  rw [dg_in h e hd, if_neg (nI_pos (by omega)), if_neg (nI_ne0 (by omega) (by omega))]
/-- a number, as it was appended -/
theorem nu_dg (hn : n ≤ 999) (ht : ∀ i, i < (dg n).length → t (p + i) = nI ((dg n).getD i 0)) (hp : p + (dg n).length ≤ L) (he : nD t L (p + (dg n).length)) : mNu t L p = some (nI n, p + (dg n).length) := by
  by_cases h1 : n < 10
  · rw [dg_1 h1] at *
    have e0 := ht 0 (Nat.le_of_ble_eq_true rfl)
    have e0 : t p = nI (48 + n) := e0
    have hp : p + 1 ≤ L := hp
    have he : nD t L (p + 1) := he
    show mNu t L p = some (nI n, p + 1)
    by_cases z : n = 0
    · subst z
      unfold mNu
      rw [dg_in (d := 0) (by omega) e0 (by decide), if_neg (by decide), if_pos (by decide)]
    · rw [nu_s (by omega) e0 (by omega) (by omega), nl_0 he]
  · by_cases h2 : n < 100
    · rw [dg_2 (by omega) h2] at *
      have e0 : t p = nI (48 + n / 10) := ht 0 (Nat.le_of_ble_eq_true rfl)
      have e1 : t (p + 1) = nI (48 + n % 10) := ht 1 (Nat.le_of_ble_eq_true rfl)
      have hp : p + 2 ≤ L := hp
      have he : nD t L (p + 1 + 1) := he
      show mNu t L p = some (nI n, p + 2)
      rw [nu_s (by omega) e0 (by omega) (by omega), nl_s (by omega) e1 (by omega), nl_0 he, show 10 * (n / 10) + n % 10 = n by omega]
    · rw [dg_3 (by omega)] at *
      have e0 : t p = nI (48 + n / 100) := ht 0 (Nat.le_of_ble_eq_true rfl)
      have e1 : t (p + 1) = nI (48 + n / 10 % 10) := ht 1 (Nat.le_of_ble_eq_true rfl)
      have e2 : t (p + 1 + 1) = nI (48 + n % 10) := ht 2 (Nat.le_of_ble_eq_true rfl)
      have hp : p + 3 ≤ L := hp
      have he : nD t L (p + 1 + 1 + 1) := he
      show mNu t L p = some (nI n, p + 3)
      rw [nu_s (by omega) e0 (by omega) (by omega), nl_s (by omega) e1 (by omega), nl_s (by omega) e2 (by omega), nl_0 he, show 10 * (10 * (n / 100) + n / 10 % 10) + n % 10 = n by omega]
theorem is_dg {q : Int32 × Nat} {a b : Int32} (h : mNu t L p = some q) : mIs t L p a b = bIn q.1 a b := by unfold mIs; rw [h]
theorem ip_dg {q : Int32 × Nat} {a b : Int32} (h : mNu t L p = some q) (hb : bIn q.1 a b = true) : mIp t L p a b = q.2 := by unfold mIp; rw [h]; exact if_pos hb
theorem ip_f {q : Int32 × Nat} {a b : Int32} (h : mNu t L p = some q) (hb : bIn q.1 a b = false) : mIp t L p a b = p := by unfold mIp; rw [h]; exact if_neg (by rw [hb]; decide)
theorem it_dg {q : Int32 × Nat} {r : Nat → Int32} {k : Nat} (h : mNu t L p = some q) : mIt t L p r k = upd r k q.1 := by unfold mIt; rw [h]
theorem tk_t {e : Nat} (h : p < L) (ht : t p = nI e) : mTk t L p (nI e) = true := by
  unfold mTk
  rw [he_in h, ht]
  exact decide_eq_true rfl
theorem tk_f {e f : Nat} (h : p < L) (ht : t p = nI e) (he : e < 200) (hf : f < 200) (hne : e ≠ f) : mTk t L p (nI f) = false := by
  unfold mTk
  rw [he_in h, ht]
  exact decide_eq_false (fun q => hne (nI_jj (by omega) (by omega) q))
end RD
