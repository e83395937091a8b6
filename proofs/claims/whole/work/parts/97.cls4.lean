/-! the class: few bytes of the built-in form found -/
def hdN (l m n : Nat) : Bool := decide ((n ≤ 1 ∨ (n = 2 ∧ 128 ≤ m) ∨ (n = 3 ∧ 2048 ≤ m) ∨ (4 ≤ n ∧ 65536 ≤ m)) ∧ l ≤ 1114111 ∧ ¬ (55296 ≤ l ∧ m ≤ 57343))
theorem hldP_n {l m n : Nat} (h1 : l ≤ m) (h2 : m < 2 ^ 31) : hldP (nI l) (nI m) n = hdN l m n := by
  have e1 := nI_toInt (n := l) (by omega)
  have e2 := nI_toInt (n := m) (by omega)
  have j1 := jHalf_n (x := l) (by omega)
  have j2 := jHalf_n (x := m) (by omega)
  have hf := fsP_c n
  unfold hdN
  by_cases c1 : (m : Int) < fsP n
  · rw [hld_f1 (by rw [e2]; exact c1), decide_eq_false (by omega)]
  · by_cases c2 : 1114111 < l
    · rw [hld_f2 (by rw [e1]; omega), decide_eq_false (by omega)]
    · by_cases c3 : 55296 ≤ l ∧ m ≤ 57343
      · rw [hld_f3 (by rw [j1, decide_eq_true_eq]; omega) (by rw [j2, decide_eq_true_eq]; omega), decide_eq_false (by omega)]
      · rw [hld_t (by rw [e2]; omega) (by rw [e1]; omega) (by rw [j1, j2, decide_eq_false_iff_not, decide_eq_false_iff_not]; omega), decide_eq_true (by omega)]
/-- bits and goodness behind some bytes -/
def bwF (v : Nat) (bs : List Nat) : Nat → Nat
  | 0 => v
  | j + 1 => bwF v bs j * 2 ^ 6 + bs.getD (j + 1) 0 % 2 ^ 6
def mvF (bs : List Nat) : Nat → Bool
  | 0 => true
  | j + 1 => mvF bs j && decide (128 ≤ bs.getD (j + 1) 0 ∧ bs.getD (j + 1) 0 ≤ 191)
theorem bwF_b (v : Nat) (bs : List Nat) : ∀ j, bwF v bs j + 1 ≤ (v + 1) * 64 ^ j
  | 0 => by simp [bwF]
  | j + 1 => by
    have h1 := bwF_b v bs j
    have h2 : (bwF v bs j + 1) * 64 ≤ (v + 1) * 64 ^ j * 64 := Nat.mul_le_mul_right 64 h1
    have e : (v + 1) * 64 ^ (j + 1) = (v + 1) * 64 ^ j * 64 := by rw [Nat.pow_succ, Nat.mul_assoc]
    rw [e]
    simp only [bwF]
    omega
def fzE (n v e : Nat) : Bool := hdN (v * 2 ^ e) ((v + 1) * 2 ^ e - 1) n
def v0F (n b : Nat) : Nat := if n = 1 then b else b % 2 ^ (7 - n)
def cfT (bs : List Nat) (n t : Nat) : Nat × Nat × Nat := if n ≠ 0 ∧ mvF bs (t - 1) = true ∧ fzE n (bwF (v0F n (bs.getD 0 0)) bs (t - 1)) (6 * (n - t)) = true then (if t = n then (2, n, bwF (v0F n (bs.getD 0 0)) bs (t - 1)) else (1, 0, 0)) else (0, 0, 0)
theorem v0F_b {n b : Nat} (h : b < 256) (hn : n = 1 → b < 128) : v0F n b < 2 ^ (7 - n) ∨ (n = 1 ∧ v0F n b < 128) := by
  unfold v0F
  split
  · rename_i e; exact Or.inr ⟨e, hn e⟩
  · exact Or.inl (Nat.mod_lt _ (Nat.two_pow_pos _))
theorem bwB {n t : Nat} {bs : List Nat} (h : bs.getD 0 0 < 256) (hn4 : n ≤ 4) (hn : n = 1 → bs.getD 0 0 < 128) (ht : t ≤ n) : ∀ j, j < t ∨ j = 0 → (bwF (v0F n (bs.getD 0 0)) bs j + 1) ≤ 2 ^ 25 := by
  intro j hj
  have h1 := bwF_b (v0F n (bs.getD 0 0)) bs j
  have h2 : v0F n (bs.getD 0 0) + 1 ≤ 128 := by
    rcases v0F_b h hn with h9 | h9
    · have : 2 ^ (7 - n) ≤ 2 ^ 7 := Nat.pow_le_pow_right (by decide) (by omega)
      omega
    · omega
  have h3 : (64 : Nat) ^ j ≤ 64 ^ 3 := Nat.pow_le_pow_right (by decide) (by omega)
  have h4 : (v0F n (bs.getD 0 0) + 1) * 64 ^ j ≤ 128 * 64 ^ 3 := Nat.mul_le_mul h2 h3
  omega
theorem bwC {n t : Nat} {bs : List Nat} (h : bs.getD 0 0 < 256) (hn4 : n ≤ 4) (hn : n = 1 → bs.getD 0 0 < 128) (ht : (n = 0 ∧ t = 0) ∨ (1 ≤ t ∧ t ≤ n)) : (bwF (v0F n (bs.getD 0 0)) bs (t - 1) + 1) * 2 ^ (6 * (n - t)) ≤ 2 ^ 25 := by
  have h1 := bwF_b (v0F n (bs.getD 0 0)) bs (t - 1)
  have h2 := v0F_b h hn
  rcases (by omega : (n = 0 ∧ t = 0) ∨ (n = 1 ∧ t = 1) ∨ (n = 2 ∧ t = 1) ∨ (n = 2 ∧ t = 2) ∨ (n = 3 ∧ t = 1) ∨ (n = 3 ∧ t = 2) ∨ (n = 3 ∧ t = 3) ∨ (n = 4 ∧ t = 1) ∨ (n = 4 ∧ t = 2) ∨ (n = 4 ∧ t = 3) ∨ (n = 4 ∧ t = 4)) with ⟨rfl, rfl⟩ | ⟨rfl, rfl⟩ | ⟨rfl, rfl⟩ | ⟨rfl, rfl⟩ | ⟨rfl, rfl⟩ | ⟨rfl, rfl⟩ | ⟨rfl, rfl⟩ | ⟨rfl, rfl⟩ | ⟨rfl, rfl⟩ | ⟨rfl, rfl⟩ | ⟨rfl, rfl⟩ <;> simp only [Nat.reduceSub, Nat.reduceMul, Nat.reducePow] at h1 h2 ⊢ <;> omega
theorem fz_nest {n v e c : Nat} (hc : c < 64) (h : fzE n v (e + 6) = false) : fzE n (v * 2 ^ 6 + c) e = false := by
  unfold fzE hdN at h ⊢
  have hp : 0 < 2 ^ e := Nat.two_pow_pos e
  have e1 : v * 2 ^ (e + 6) = v * 2 ^ 6 * 2 ^ e := by rw [Nat.pow_add, Nat.mul_comm (2 ^ e), Nat.mul_assoc]
  have e2 : (v + 1) * 2 ^ (e + 6) = (v + 1) * 2 ^ 6 * 2 ^ e := by rw [Nat.pow_add, Nat.mul_comm (2 ^ e), Nat.mul_assoc]
  have l1 : v * 2 ^ 6 * 2 ^ e ≤ (v * 2 ^ 6 + c) * 2 ^ e := Nat.mul_le_mul_right _ (by omega)
  have l2 : (v * 2 ^ 6 + c + 1) * 2 ^ e ≤ (v + 1) * 2 ^ 6 * 2 ^ e := Nat.mul_le_mul_right _ (by omega)
  rw [e1, e2] at h
  have h9 := of_decide_eq_false h
  apply decide_eq_false
  generalize (v * 2 ^ 6 + c) * 2 ^ e = A1 at *
  generalize (v * 2 ^ 6 + c + 1) * 2 ^ e = A2 at *
  generalize v * 2 ^ 6 * 2 ^ e = A3 at *
  generalize (v + 1) * 2 ^ 6 * 2 ^ e = A4 at *
  omega
theorem fz_nestN {n v : Nat} {bs : List Nat} : ∀ m j, j + m + 1 ≤ n → fzE n (bwF v bs j) (6 * (n - (j + 1))) = false → fzE n (bwF v bs (j + m)) (6 * (n - (j + m + 1))) = false
  | 0, j, _, h => h
  | m + 1, j, hl, h => by
    have h1 := fz_nestN (n := n) (v := v) (bs := bs) m (j + 1) (by omega) (by
      rw [show 6 * (n - (j + 1)) = 6 * (n - (j + 1 + 1)) + 6 by omega] at h
      exact fz_nest (c := bs.getD (j + 1) 0 % 2 ^ 6) (Nat.mod_lt _ (by decide)) h)
    rw [show j + (m + 1) = j + 1 + m by omega]
    exact h1
theorem fwX_fz {n v e : Nat} (hn : 2 ≤ n) (hn4 : n ≤ 4) : fwX n v e = !fzE n v e := by
  unfold fwX fzE hdN fwL0
  have hp : 0 < 2 ^ e := Nat.two_pow_pos e
  rw [Nat.add_mul]
  generalize v * 2 ^ e = A1
  generalize 2 ^ e = A2 at *
  rcases (by omega : n = 2 ∨ n = 3 ∨ n = 4) with rfl | rfl | rfl
  · rw [← decide_not, if_pos rfl]; exact decide_eq_decide.mpr (by omega)
  · rw [← decide_not, if_neg (by decide), if_pos rfl]; exact decide_eq_decide.mpr (by omega)
  · rw [← decide_not, if_neg (by decide), if_neg (by decide)]; exact decide_eq_decide.mpr (by omega)
theorem mw_no {bs : List Nat} : ∀ m j, mvF bs j = false → mvF bs (j + m) = false
  | 0, _, h => h
  | m + 1, j, h => by rw [show j + (m + 1) = (j + m) + 1 by omega, mvF, mw_no m j h]; rfl
theorem lkFl_ok {n t v : Nat} {bs : List Nat} (hn : 2 ≤ n) (hn4 : n ≤ 4) (ht : (t = n ∧ n ≤ bs.length) ∨ (t < n ∧ bs.length = t)) : ∀ m k, k + m = t → 1 ≤ k → mvF bs (k - 1) = true → fzE n (bwF v bs (k - 1)) (6 * (n - k)) = true → lkFl n bs (n - k) k (bwF v bs (k - 1)) = (if mvF bs (t - 1) = true ∧ fzE n (bwF v bs (t - 1)) (6 * (n - t)) = true then (if t = n then (2, n, bwF v bs (t - 1)) else (1, 0, 0)) else (0, 0, 0))
  | 0, k, hk, h1, hm, hf => by
    obtain rfl : k = t := by omega
    rw [if_pos ⟨hm, hf⟩]
    rcases ht with ⟨rfl, hl⟩ | ⟨hl, hl2⟩
    · rw [Nat.sub_self, if_pos rfl]; rfl
    · rw [show n - k = n - k - 1 + 1 by omega, lkFl, if_pos (by omega), if_neg (by omega)]
  | m + 1, k, hk, h1, hm, hf => by
    have ek : bwF v bs k = bwF v bs (k - 1) * 2 ^ 6 + bs.getD k 0 % 2 ^ 6 := by
      obtain ⟨j, rfl⟩ : ∃ j, k = j + 1 := ⟨k - 1, by omega⟩
      rfl
    have em : mvF bs k = (mvF bs (k - 1) && decide (128 ≤ bs.getD k 0 ∧ bs.getD k 0 ≤ 191)) := by
      obtain ⟨j, rfl⟩ : ∃ j, k = j + 1 := ⟨k - 1, by omega⟩
      rfl
    rw [show n - k = n - (k + 1) + 1 by omega, lkFl, if_neg (by omega)]
    by_cases c1 : 128 ≤ bs.getD k 0 ∧ bs.getD k 0 ≤ 191
    · rw [if_pos c1, fwX_fz hn hn4, ← ek, show 6 * (n - 1 - k) = 6 * (n - (k + 1)) by omega]
      by_cases c2 : fzE n (bwF v bs k) (6 * (n - (k + 1))) = true
      · rw [c2, if_neg (by decide)]
        exact lkFl_ok hn hn4 ht m (k + 1) (by omega) (by omega) (by rw [Nat.add_sub_cancel, em, hm, decide_eq_true c1]; rfl) (by rw [Nat.add_sub_cancel]; exact c2)
      · have c2' : fzE n (bwF v bs k) (6 * (n - (k + 1))) = false := by simpa using c2
        rw [c2', if_pos (by decide)]
        have h9 := fz_nestN (bs := bs) (v := v) (n := n) (t - 1 - k) k (by omega) c2'
        rw [show k + (t - 1 - k) = t - 1 by omega, show n - (t - 1 + 1) = n - t by omega] at h9
        rw [if_neg (fun h8 => by rw [h9] at h8; exact absurd h8.2 (by decide))]
    · rw [if_neg c1]
      have h9 := mw_no (bs := bs) (t - 1 - k) k (by rw [em, decide_eq_false c1, Bool.and_false])
      rw [show k + (t - 1 - k) = t - 1 by omega] at h9
      rw [if_neg (fun h8 => by rw [h9] at h8; exact absurd h8.1 (by decide))]
theorem cfT_ok {bs : List Nat} {t : Nat} (hb : bs.getD 0 0 < 256) (hl : 1 ≤ bs.length) (ht : (t = fwL (bs.getD 0 0) ∧ fwL (bs.getD 0 0) ≤ bs.length) ∨ (t < fwL (bs.getD 0 0) ∧ bs.length = t)) : cfT bs (fwL (bs.getD 0 0)) t = lkF bs := by
  have hc : (fwL (bs.getD 0 0) = 0 ∧ fwM (bs.getD 0 0) = 0) ∨ (fwL (bs.getD 0 0) = 1 ∧ fwM (bs.getD 0 0) = 1 ∧ bs.getD 0 0 < 128) ∨ ((fwL (bs.getD 0 0) = 2 ∧ 192 ≤ bs.getD 0 0 ∧ bs.getD 0 0 < 224) ∨ (fwL (bs.getD 0 0) = 3 ∧ 224 ≤ bs.getD 0 0 ∧ bs.getD 0 0 < 240) ∨ (fwL (bs.getD 0 0) = 4 ∧ 240 ≤ bs.getD 0 0 ∧ bs.getD 0 0 < 248)) := by
    rcases (by omega : bs.getD 0 0 < 128 ∨ (128 ≤ bs.getD 0 0 ∧ bs.getD 0 0 < 192) ∨ (192 ≤ bs.getD 0 0 ∧ bs.getD 0 0 < 224) ∨ (224 ≤ bs.getD 0 0 ∧ bs.getD 0 0 < 240) ∨ (240 ≤ bs.getD 0 0 ∧ bs.getD 0 0 < 248) ∨ 248 ≤ bs.getD 0 0) with c | c | c | c | c | c
    · exact Or.inr (Or.inl ⟨by rw [fwL, if_pos (by omega)], by rw [fwM, if_pos (by omega)], c⟩)
    · exact Or.inl ⟨by rw [fwL, if_neg (by omega), if_pos (by omega)], by rw [fwM, if_neg (by omega), if_neg (by omega), if_neg (by omega), if_neg (by omega)]⟩
    · exact Or.inr (Or.inr (Or.inl ⟨by rw [fwL, if_neg (by omega), if_neg (by omega), if_pos (by omega)], c⟩))
    · exact Or.inr (Or.inr (Or.inr (Or.inl ⟨by rw [fwL, if_neg (by omega), if_neg (by omega), if_neg (by omega), if_pos (by omega)], c⟩)))
    · exact Or.inr (Or.inr (Or.inr (Or.inr ⟨by rw [fwL, if_neg (by omega), if_neg (by omega), if_neg (by omega), if_neg (by omega)], c⟩)))
    · exact Or.inl ⟨by rw [fwL, if_neg (by omega), if_pos (by omega)], by rw [fwM, if_neg (by omega), if_neg (by omega), if_neg (by omega), if_neg (by omega)]⟩
  rcases hc with ⟨h1, h2⟩ | ⟨h1, h2, h3⟩ | h
  · rw [lkF, if_pos h2, h1, cfT, if_neg (fun h9 => h9.1 rfl)]
  · rw [h1] at ht ⊢
    obtain rfl : t = 1 := by omega
    have h9 : fzE 1 (bwF (v0F 1 (bs.getD 0 0)) bs (1 - 1)) (6 * (1 - 1)) = true := by
      show fzE 1 (v0F 1 (bs.getD 0 0)) 0 = true
      rw [fzE, v0F, if_pos rfl, hdN]
      exact decide_eq_true (by omega)
    rw [lkF, h2, if_neg (by decide), cfT, if_pos ⟨by decide, rfl, h9⟩]
    rfl
  · have hn : 2 ≤ fwL (bs.getD 0 0) ∧ fwL (bs.getD 0 0) ≤ 4 := by omega
    have hfz : fzE (fwL (bs.getD 0 0)) (v0F (fwL (bs.getD 0 0)) (bs.getD 0 0)) (6 * (fwL (bs.getD 0 0) - 1)) = decide (194 ≤ bs.getD 0 0 ∧ bs.getD 0 0 ≤ 244) := by
      unfold fzE hdN v0F
      rcases h with ⟨e, h⟩ | ⟨e, h⟩ | ⟨e, h⟩
      · rw [e, if_neg (by decide)]; refine decide_eq_decide.mpr ?_; simp only [Nat.reduceSub, Nat.reduceMul, Nat.reducePow, true_and, and_true, false_and, false_or, or_false]; omega
      · rw [e, if_neg (by decide)]; refine decide_eq_decide.mpr ?_; simp only [Nat.reduceSub, Nat.reduceMul, Nat.reducePow, true_and, and_true, false_and, false_or, or_false]; omega
      · rw [e, if_neg (by decide)]; refine decide_eq_decide.mpr ?_; simp only [Nat.reduceSub, Nat.reduceMul, Nat.reducePow, true_and, and_true, false_and, false_or, or_false]; omega
    have hfM : fwM (bs.getD 0 0) = if 194 ≤ bs.getD 0 0 ∧ bs.getD 0 0 ≤ 244 then fwL (bs.getD 0 0) else 0 := by
      rcases h with ⟨e, h⟩ | ⟨e, h⟩ | ⟨e, h⟩ <;> rw [e, fwM, if_neg (by omega)]
      · by_cases c : 194 ≤ bs.getD 0 0 ∧ bs.getD 0 0 ≤ 223
        · rw [if_pos c, if_pos (by omega)]
        · rw [if_neg c, if_neg (by omega), if_neg (by omega), if_neg (by omega)]
      · rw [if_neg (by omega), if_pos (by omega), if_pos (by omega)]
      · rw [if_neg (by omega), if_neg (by omega)]
        by_cases c : 240 ≤ bs.getD 0 0 ∧ bs.getD 0 0 ≤ 244
        · rw [if_pos c, if_pos (by omega)]
        · rw [if_neg c, if_neg (by omega)]
    have hfB : fwB (fwL (bs.getD 0 0)) (bs.getD 0 0) = v0F (fwL (bs.getD 0 0)) (bs.getD 0 0) := by
      unfold fwB v0F
      rcases h with ⟨e, h⟩ | ⟨e, h⟩ | ⟨e, h⟩ <;> rw [e] <;> rfl
    by_cases c : 194 ≤ bs.getD 0 0 ∧ bs.getD 0 0 ≤ 244
    · rw [if_pos c] at hfM
      rw [lkF, hfM, if_neg (by omega), hfB, cfT]
      have h9 := lkFl_ok (v := v0F (fwL (bs.getD 0 0)) (bs.getD 0 0)) hn.1 hn.2 ht (t - 1) 1 (by omega) (by omega) rfl (by show fzE _ (v0F _ _) _ = true; rw [hfz, decide_eq_true c])
      rw [show bwF (v0F (fwL (bs.getD 0 0)) (bs.getD 0 0)) bs (1 - 1) = v0F (fwL (bs.getD 0 0)) (bs.getD 0 0) from rfl] at h9
      rw [h9]
      by_cases c2 : mvF bs (t - 1) = true ∧ fzE (fwL (bs.getD 0 0)) (bwF (v0F (fwL (bs.getD 0 0)) (bs.getD 0 0)) bs (t - 1)) (6 * (fwL (bs.getD 0 0) - t)) = true
      · rw [if_pos c2, if_pos ⟨by omega, c2.1, c2.2⟩]
      · rw [if_neg c2, if_neg (fun h8 => c2 h8.2)]
    · rw [if_neg c] at hfM
      rw [lkF, hfM, if_pos rfl, cfT]
      have h9 := fz_nestN (bs := bs) (v := v0F (fwL (bs.getD 0 0)) (bs.getD 0 0)) (n := fwL (bs.getD 0 0)) (t - 1) 0 (by omega) (by show fzE _ (v0F _ _) _ = false; rw [hfz, decide_eq_false c])
      rw [Nat.zero_add, show t - 1 + 1 = t by omega] at h9
      rw [if_neg (fun h8 => by rw [h9] at h8; exact absurd h8.2.2 (by decide))]
