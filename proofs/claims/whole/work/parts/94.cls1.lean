/-! the class: rows, more -/
theorem getD_cat {l m : List Nat} {j : Nat} : (l ++ m).getD j 0 = if j < l.length then l.getD j 0 else m.getD (j - l.length) 0 := by
  by_cases e : j < l.length
  · rw [if_pos e, getD_apf e]
  · rw [if_neg e, List.getD_eq_getElem?_getD, List.getElem?_append_right (by omega), ← List.getD_eq_getElem?_getD]
theorem w_addAll {d : Nat} {h : mH} {r n r2 n2 : Nat} {l m : List Nat} {Q : mP} (a : RwAt h r n l) (b : RwAt h r2 n2 m) (hn : n < 2 ^ 31) (hn2 : n2 < 2 ^ 31) (q1 : l.length + m.length ≤ n → ∀ h', RwAt h' r n (l ++ m) → Fr r (r + 2) h h' → Q (some (.int 1)) h') (q0 : n < l.length + m.length → Q (some (.int 0)) h) : mWP (d + 1) 73 [.ref r, .ref r2] h Q := by
  obtain ⟨a1, a2, g, a3, a4⟩ := a
  obtain ⟨b1, b2', g2, b3, b4⟩ := b
  refine c_Row_addAll a1 a3 b1 b3 hn hn2 a2 b2' (fun hl => q1 hl _ ⟨?_, ?_, va_cpy g2 g 0 l.length m.length, mg_ne (by omega) (mg_eq _ _ _), fun j hj => ?_⟩ (Fr.of_set2 (by omega) (by omega))) q0
  · rw [mg_eq, List.length_append]
  · rw [List.length_append]; exact hl
  · rw [List.length_append] at hj
    rw [getD_cat]
    by_cases e : j < l.length
    · rw [pk_cpy_out (by omega), if_pos e]; exact a4 j e
    · rw [pk_cpy_in (by omega) (by omega), if_neg e, Nat.zero_add]; exact b4 _ (by omega)
theorem jHalf_n {x : Nat} (h : x < 2 ^ 31) : jHalf (nI x) = decide (55296 ≤ x ∧ x ≤ 57343) := by rw [jHalf, nI_toInt h]; congr 1; rw [eq_iff_iff]; omega
theorem joinI_n {x y : Nat} (hx : 55296 ≤ x) (hy : 56320 ≤ y) : joinI (nI x) (nI y) = nI (65536 + (x - 55296) * 2 ^ 10 + y - 56320) := by
  have h1 : nI x - nI 55296 = nI (x - 55296) := pk_sub hx
  have h2 : nI y - nI 56320 = nI (y - 56320) := pk_sub hy
  have h3 : nI (x - 55296) * nI 1024 = nI ((x - 55296) * 1024) := pk_mul _ _
  rw [joinI, h1, h2, h3, nI_add, nI_add, show 65536 + (x - 55296) * 1024 + (y - 56320) = 65536 + (x - 55296) * 2 ^ 10 + y - 56320 by omega]
/-- the point at a place of a row of units; -1 a lone half -/
def uP (us : List Nat) (a : Nat) : Int32 := if (unA us a).1 = 0 then -1 else nI (unA us a).2
theorem uP_ok {us : List Nat} {f : Nat → Int32} {a : Nat} (hf : ∀ j, j < us.length → f j = nI (us.getD j 0)) (hb : ∀ j, us.getD j 0 < 65536) (ha : a < us.length) : ptAt f us.length a = uP us a := by
  have h1 := hb a
  have h2 := hb (a + 1)
  unfold ptAt uP
  rw [hf a ha, jHalf_n (by omega), jHigh_n (by omega)]
  simp only [decide_eq_true_eq]
  by_cases e1 : 55296 ≤ us.getD a 0 ∧ us.getD a 0 ≤ 57343
  · rw [if_pos e1]
    have lone : ¬ ((55296 ≤ us.getD a 0 ∧ us.getD a 0 ≤ 56319) ∧ a + 1 < us.length ∧ (56320 ≤ us.getD (a + 1) 0 ∧ us.getD (a + 1) 0 ≤ 57343)) → unA us a = (0, us.getD a 0) := fun h9 => by
      unfold unA
      rw [if_neg h9, if_pos (by omega)]
    by_cases e2 : (55296 ≤ us.getD a 0 ∧ us.getD a 0 ≤ 56319) ∧ a + 1 < us.length
    · rw [hf (a + 1) e2.2, jLow_n (by omega)]
      simp only [decide_eq_true_eq]
      by_cases e3 : 56320 ≤ us.getD (a + 1) 0 ∧ us.getD (a + 1) 0 ≤ 57343
      · have hu : unA us a = (2, 65536 + (us.getD a 0 - 55296) * 2 ^ 10 + us.getD (a + 1) 0 - 56320) := if_pos ⟨e2.1, e2.2, e3⟩
        rw [if_pos (show _ ∧ _ ∧ _ from ⟨e2.1, e2.2, e3⟩), joinI_n (by omega) (by omega), hu, if_neg (show ¬ (2 : Nat) = 0 by decide)]
      · rw [if_neg (fun h9 : _ ∧ _ ∧ _ => e3 h9.2.2), lone (fun h9 => e3 h9.2.2), if_pos rfl]
    · rw [if_neg (fun h9 : _ ∧ _ ∧ _ => e2 ⟨h9.1, h9.2.1⟩), lone (fun h9 => e2 ⟨h9.1, h9.2.1⟩), if_pos rfl]
  · have hu : unA us a = (1, us.getD a 0) := by
      unfold unA
      rw [if_neg (by omega), if_neg (by omega)]
    rw [if_neg e1, hu, if_neg (show ¬ (1 : Nat) = 0 by decide)]
theorem w_pointAt {d : Nat} {h : mH} {r n a : Nat} {us : List Nat} {Q : mP} (w : RwAt h r n us) (hn : n < 2 ^ 31) (hb : ∀ j, us.getD j 0 < 65536) (ha : a < us.length) (q : Q (some (.int (uP us a))) h) : mWP (d + 2) 78 [.ref r, .int (nI a)] h Q := by
  obtain ⟨a1, a2, g, a3, a4⟩ := w
  refine c_Row_pointAt a1 a3 hn a2 ha ?_
  rw [uP_ok a4 hb ha]
  exact q
theorem packN_n {bs : List Nat} {f : Nat → Int32} {a : Nat} (hb : ∀ j, bs.getD j 0 < 256) : ∀ k, k ≤ 3 → a + k ≤ bs.length → (∀ j, j < bs.length → f j = nI (bs.getD j 0)) → packN f a k = nI (txF bs a k)
  | 0, _, _, _ => rfl
  | k + 1, hk, hl, hf => by
    have h1 := txF_b hb (a := a) k
    have h2 : 256 ^ k ≤ 256 ^ 2 := Nat.pow_le_pow_right (by decide) (by omega)
    have h3 := hb (a + k)
    have e1 : nI (txF bs a k) <<< (nI 8 &&& 31) = nI (txF bs a k * 2 ^ 8) := shl_n 8 (by decide) (by omega)
    have e2 : nI (txF bs a k * 2 ^ 8) ||| nI (bs.getD (a + k) 0) = nI (txF bs a k * 2 ^ 8 + bs.getD (a + k) 0) := or_n (k := 8) (by omega) (by omega)
    rw [packN, packN_n hb k (by omega) (by omega) hf, e1, hf (a + k) (by omega), e2, txF, nb, if_pos (by omega)]
theorem w_numberAt {d : Nat} {h : mH} {r n a k : Nat} {bs : List Nat} {Q : mP} (w : RwAt h r n bs) (hn : n < 2 ^ 31) (hb : ∀ j, bs.getD j 0 < 256) (hk : k ≤ 3) (hl : a + k ≤ bs.length) (q : Q (some (.int (nI (txF bs a k)))) h) : mWP (d + 2) 76 [.ref r, .int (nI a), .int (nI k)] h Q := by
  obtain ⟨a1, a2, g, a3, a4⟩ := w
  refine c_Row_numberAt a1 a3 hn a2 (by omega) (by omega) (fun _ => ?_) (fun h9 => absurd h9 (by omega))
  rw [packN_n hb k hk hl a4]
  exact q
theorem smF_n {l m : List Nat} {f g : Nat → Int32} (hl : ∀ j, l.getD j 0 < 2 ^ 31) (hm : ∀ j, m.getD j 0 < 2 ^ 31) : ∀ k i, i + k = l.length → l.length = m.length → (∀ j, j < l.length → f j = nI (l.getD j 0)) → (∀ j, j < m.length → g j = nI (m.getD j 0)) → smF f g k i = decide (l.drop i = m.drop i)
  | 0, i, h1, h2, _, _ => by rw [List.drop_eq_nil_of_le (by omega), List.drop_eq_nil_of_le (by omega)]; rfl
  | k + 1, i, h1, h2, hf, hg => by
    have e1 := hl i
    have e2 := hm i
    rw [smF, hf i (by omega), hg i (by omega), smF_n hl hm k (i + 1) (by omega) h2 hf hg, drop_c9 (show i < l.length by omega), drop_c9 (show i < m.length by omega)]
    by_cases e : l.getD i 0 = m.getD i 0
    · rw [if_pos (by rw [e]), e]
      simp
    · rw [if_neg (fun h9 => e (by have h8 := congrArg Int32.toInt h9; rw [nI_toInt e1, nI_toInt e2] at h8; omega))]
      exact (decide_eq_false (fun h9 => e (List.cons.inj h9).1)).symm
theorem w_isSame {d : Nat} {h : mH} {r n r2 n2 : Nat} {l m : List Nat} {Q : mP} (a : RwAt h r n l) (b : RwAt h r2 n2 m) (hn : n < 2 ^ 31) (hn2 : n2 < 2 ^ 31) (hl : ∀ j, l.getD j 0 < 2 ^ 31) (hm : ∀ j, m.getD j 0 < 2 ^ 31) (q : Q (some (.int (bI (decide (l = m))))) h) : mWP (d + 1) 79 [.ref r, .ref r2] h Q := by
  obtain ⟨a1, a2, g, a3, a4⟩ := a
  obtain ⟨b1, b2', g2, b3, b4⟩ := b
  refine c_Row_isSame a1 a3 b1 b3 hn hn2 a2 b2' ?_
  by_cases e : l.length = m.length
  · rw [smF_n hl hm l.length 0 (by omega) e a4 b4, decide_eq_true e, Bool.true_and]
    exact q
  · rw [decide_eq_false e, Bool.false_and]
    rw [decide_eq_false (fun h9 => e (by rw [h9]))] at q
    exact q
