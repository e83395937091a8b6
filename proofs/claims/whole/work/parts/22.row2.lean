/-! Row, further -/
theorem mSet_id {h : mH} {a : Nat} {e : mC} (ha : h.2 a = e) : mSet h a e = h := by
  obtain ⟨n, f⟩ := h
  simp only [mSet]
  congr 1
  funext k
  by_cases hk : k = a
  · subst hk; rw [if_pos rfl]; exact ha.symm
  · rw [if_neg hk]
theorem mSet_ss (h : mH) (a : Nat) (e e' : mC) : mSet (mSet h a e) a e' = mSet h a e' := by
  simp only [mSet]
  congr 1
  funext k
  by_cases hk : k = a <;> simp [hk]
theorem mSet_cm {h : mH} {a b : Nat} (hab : a ≠ b) (e e' : mC) : mSet (mSet h a e) b e' = mSet (mSet h b e') a e := by
  simp only [mSet]
  congr 1
  funext k
  by_cases hk : k = a
  · subst hk; simp [hab]
  · simp [hk]
/-- two cells written again -/
theorem mSet_2 {h : mH} {a b : Nat} (hab : a ≠ b) (e1 e2 e3 e4 : mC) : mSet (mSet (mSet (mSet h a e1) b e2) a e3) b e4 = mSet (mSet h a e3) b e4 := by
  rw [mSet_cm (Ne.symm hab) e2 e3, mSet_ss, mSet_ss]
theorem mg_apart {h : mH} {a b : Nat} {e e' : mC} (ha : h.2 a = e) (hb : h.2 b = e') (hn : e ≠ e') : a ≠ b := fun q => hn (by rw [← ha, ← hb, q])
def byt (x : Int32) (k : Nat) : Int32 := nI (x.toBitVec.toNat / 2 ^ (8 * k) % 256)
theorem byt_ok (x : Int32) {k : Nat} (hk : k < 4) : mBop 3 (mBop 8 x (nI (8 * k))) (nI 255) = byt x k := by
  show _ &&& _ = _
  rw [pk_and _ 8 (by decide)]
  show nI ((x.toUInt32 >>> ((nI (8 * k)).toUInt32 &&& Int32.toUInt32 31)).toInt32.toBitVec.toNat % 2 ^ 8) = _
  rw [pk_ushr x (nI (8 * k)) (8 * k) (by
    have : k = 0 ∨ k = 1 ∨ k = 2 ∨ k = 3 := by omega
    rcases this with rfl | rfl | rfl | rfl <;> decide)]
  rfl
/-- len bytes of x behind the first c -/
def addN (f : Nat → Int32) (c : Nat) (x : Int32) (len i : Nat) : Nat → Int32 := fun j => if c ≤ j ∧ j < c + i then byt x (len - 1 - (j - c)) else f j
theorem addN_0 (f : Nat → Int32) (c : Nat) (x : Int32) (len : Nat) : addN f c x len 0 = f := by
  funext j
  simp only [addN]
  rw [if_neg (by omega)]
theorem addN_s (f : Nat → Int32) (c : Nat) (x : Int32) (len i : Nat) : upd (addN f c x len i) (c + i) (byt x (len - 1 - i)) = addN f c x len (i + 1) := by
  funext j
  simp only [addN, upd]
  by_cases hj : j = c + i
  · subst hj
    rw [if_pos rfl, if_pos (by omega), show c + i - c = i by omega]
  · rw [if_neg hj]
    by_cases h2 : c ≤ j ∧ j < c + i
    · rw [if_pos h2, if_pos (by omega)]
    · rw [if_neg h2, if_neg (by omega)]
set_option maxRecDepth 10000 in
theorem c_Row_addAll {d : Nat} {h : mH} {r v n c r2 v2 n2 c2 : Nat} {f g : Nat → Int32} {Q : mP} (h1 : h.2 r = oRow v (nI c)) (h2 : h.2 v = aI n f) (h3 : h.2 r2 = oRow v2 (nI c2)) (h4 : h.2 v2 = aI n2 g) (hn : n < 2 ^ 31) (hn2 : n2 < 2 ^ 31) (hc : c ≤ n) (hc2 : c2 ≤ n2) (q1 : c + c2 ≤ n → Q (some (.int 1)) (mSet (mSet h v (aI n (va_cpy g f 0 c c2))) r (oRow v (nI (c + c2))))) (q0 : n < c + c2 → Q (some (.int 0)) h) : mWP (d + 1) 73 [.ref r, .ref r2] h Q := by
  refine z_in [some (.ref r), some (.ref r2)] (by rfl) rfl rfl rfl ?_
  refine z_aload 1 rfl rfl rfl ?_
  refine z_get 4 rfl rfl (by first | exact h1 | exact h2 | exact h3 | exact h4 | exact mg_k h1 h2 (by simp) | exact mg_k h3 h2 (by simp)) rfl ?_
  refine z_aload 5 rfl rfl rfl ?_
  refine z_get 8 rfl rfl (by first | exact h1 | exact h2 | exact h3 | exact h4 | exact mg_k h1 h2 (by simp) | exact mg_k h3 h2 (by simp)) rfl ?_
  refine z_alen 9 rfl rfl (by first | exact h1 | exact h2 | exact h3 | exact h4 | exact mg_k h1 h2 (by simp) | exact mg_k h3 h2 (by simp)) (by decide) ?_
  refine z_aload 10 rfl rfl rfl ?_
  refine z_get 13 rfl rfl (by first | exact h1 | exact h2 | exact h3 | exact h4 | exact mg_k h1 h2 (by simp) | exact mg_k h3 h2 (by simp)) rfl ?_
  refine z_bop 14 _ rfl rfl (by first | with_reducible exact zb_1 (by omega) | exact zd_1 _ _) ?_
  first | refine z_nle 17 rfl rfl (by omega) (by omega) (fun hc14 => ?_) (fun hc14 => ?_) | refine z_kle 17 rfl rfl (by omega) (fun hc14 => ?_) (fun hc14 => ?_) | refine z_hle 17 rfl rfl (by omega) (fun hc14 => ?_) (fun hc14 => ?_) | refine z_tle 17 rfl rfl (fun hc14 => ?_) (fun hc14 => ?_)
  · refine z_aload 20 rfl rfl rfl ?_
    refine z_get 23 rfl rfl (by first | exact h1 | exact h2 | exact h3 | exact h4 | exact mg_k h1 h2 (by simp) | exact mg_k h3 h2 (by simp)) rfl ?_
    refine z_push 24 (nI 0) rfl rfl rfl ?_
    refine z_aload 25 rfl rfl rfl ?_
    refine z_get 28 rfl rfl (by first | exact h1 | exact h2 | exact h3 | exact h4 | exact mg_k h1 h2 (by simp) | exact mg_k h3 h2 (by simp)) rfl ?_
    refine z_aload 29 rfl rfl rfl ?_
    refine z_get 32 rfl rfl (by first | exact h1 | exact h2 | exact h3 | exact h4 | exact mg_k h1 h2 (by simp) | exact mg_k h3 h2 (by simp)) rfl ?_
    refine z_aload 33 rfl rfl rfl ?_
    refine z_get 36 rfl rfl (by first | exact h1 | exact h2 | exact h3 | exact h4 | exact mg_k h1 h2 (by simp) | exact mg_k h3 h2 (by simp)) rfl ?_
    refine z_copy 39 rfl rfl rfl (by first | exact h1 | exact h2 | exact h3 | exact h4 | exact mg_k h1 h2 (by simp) | exact mg_k h3 h2 (by simp)) (by first | exact h1 | exact h2 | exact h3 | exact h4 | exact mg_k h1 h2 (by simp) | exact mg_k h3 h2 (by simp)) rfl rfl rfl (by omega) (by omega) (by omega) (by omega) ?_
    refine z_aload 40 rfl rfl rfl ?_
    first | refine z_dup 41 rfl rfl ?_ | refine z_dupi 41 rfl rfl ?_
    refine z_get 44 rfl rfl (by first | exact h1 | exact h2 | exact h3 | exact h4 | exact mg_k h1 h2 (by simp) | exact mg_k h3 h2 (by simp)) rfl ?_
    refine z_aload 45 rfl rfl rfl ?_
    refine z_get 48 rfl rfl (by first | exact h1 | exact h2 | exact h3 | exact h4 | exact mg_k h1 h2 (by simp) | exact mg_k h3 h2 (by simp)) rfl ?_
    refine z_bop 49 _ rfl rfl (by first | with_reducible exact zb_0 _ _ | exact zd_0 _ _) ?_
    refine z_put 52 rfl rfl (by first | exact h1 | exact h2 | exact h3 | exact h4 | exact mg_k h1 h2 (by simp) | exact mg_k h3 h2 (by simp)) rfl (mFi rfl) ?_
    refine z_push 53 (nI 1) rfl rfl rfl ?_
    refine z_iretb rfl (Nat.le_refl _) (Nat.le_refl _) (by first | decide | exact bI_01 _) ?_
    first | exact q0 (by omega) | exact q1 (by omega)
  · refine z_push 18 (nI 0) rfl rfl rfl ?_
    refine z_iretb rfl (Nat.le_refl _) (Nat.le_refl _) (by first | decide | exact bI_01 _) ?_
    first | exact q0 (by omega) | exact q1 (by omega)
set_option maxRecDepth 10000 in
theorem c_Row_addNumber {d : Nat} {h : mH} {r v n c len : Nat} {f : Nat → Int32} {x : Int32} {Q : mP} (h1 : h.2 r = oRow v (nI c)) (h2 : h.2 v = aI n f) (hn : n < 2 ^ 31) (hl : len ≤ 4) (hc : c + len ≤ n) (q : Q none (mSet (mSet h v (aI n (addN f c x len len))) r (oRow v (nI (c + len))))) : mWP (d + 1) 74 [.ref r, .int x, .int (nI len)] h Q := by
  have hrv : v ≠ r := mg_apart h2 h1 (by simp)
  have loop : ∀ k i, i + k = len → mZ d tk_74 0 0 Q 4 [some (.ref r), some (.int x), some (.int (nI len)), some (.int (nI k - 1))] [] (mSet (mSet h v (aI n (addN f c x len i))) r (oRow v (nI (c + i)))) 0 0 := by
    intro k
    induction k with
    | zero =>
      intro i hi
      obtain rfl : i = len := by omega
      refine z_iload 5 rfl rfl rfl ?_
      refine z_jlt 8 rfl rfl (fun hc5 => ?_) (fun hc5 => ?_)
      · refine z_vret rfl (Nat.le_refl _) (Nat.le_refl _) ?_
        exact q
      · exact absurd hc5 (by decide)
    | succ k ih =>
      intro i hi
      rw [nI_pred]
      have e1 : (mSet (mSet h v (aI n (addN f c x len i))) r (oRow v (nI (c + i)))).2 r = oRow v (nI (c + i)) := mg_eq _ _ _
      have e2 : (mSet (mSet h v (aI n (addN f c x len i))) r (oRow v (nI (c + i)))).2 v = aI n (addN f c x len i) := mg_ne hrv (mg_eq _ _ _)
      refine z_iload 5 rfl rfl rfl ?_
      first | refine z_zlt 8 rfl rfl (by omega) (fun hc5 => ?_) (fun hc5 => ?_) | refine z_jlt 8 rfl rfl (fun hc5 => ?_) (fun hc5 => ?_)
      · refine z_vret rfl (Nat.le_refl _) (Nat.le_refl _) ?_
        exact absurd hc5 (by omega)
      · refine z_aload 9 rfl rfl rfl ?_
        refine z_get 12 rfl rfl (by first | exact e1 | exact e2 | exact mg_k e1 e2 (by simp)) rfl ?_
        refine z_aload 13 rfl rfl rfl ?_
        refine z_get 16 rfl rfl (by first | exact e1 | exact e2 | exact mg_k e1 e2 (by simp)) rfl ?_
        refine z_alen 17 rfl rfl (by first | exact e1 | exact e2 | exact mg_k e1 e2 (by simp)) (by decide) ?_
        first | refine z_nge 20 rfl rfl (by omega) (by omega) (fun hc17 => ?_) (fun hc17 => ?_) | refine z_kge 20 rfl rfl (by omega) (fun hc17 => ?_) (fun hc17 => ?_) | refine z_hge 20 rfl rfl (by omega) (fun hc17 => ?_) (fun hc17 => ?_) | refine z_tge 20 rfl rfl (fun hc17 => ?_) (fun hc17 => ?_)
        · refine z_vret rfl (Nat.le_refl _) (Nat.le_refl _) ?_
          exact absurd hc5 (by omega)
        · refine z_aload 21 rfl rfl rfl ?_
          refine z_get 24 rfl rfl (by first | exact e1 | exact e2 | exact mg_k e1 e2 (by simp)) rfl ?_
          refine z_aload 25 rfl rfl rfl ?_
          refine z_get 28 rfl rfl (by first | exact e1 | exact e2 | exact mg_k e1 e2 (by simp)) rfl ?_
          refine z_iload 29 rfl rfl rfl ?_
          refine z_push 31 (nI 8) rfl rfl rfl ?_
          refine z_iload 32 rfl rfl rfl ?_
          refine z_bop 33 _ rfl rfl (by first | with_reducible exact zb_2 _ _ | exact zd_2 _ _) ?_
          refine z_bop 34 _ rfl rfl (zd_8 _ _) ?_
          refine z_push 37 (nI 255) rfl rfl rfl ?_
          refine z_bop 38 _ rfl rfl (byt_ok x (by omega)) ?_
          refine z_ast 39 rfl rfl (by first | exact e1 | exact e2 | exact mg_k e1 e2 (by simp)) rfl (by omega) (by omega) ?_
          refine z_aload 40 rfl rfl rfl ?_
          first | refine z_dup 41 rfl rfl ?_ | refine z_dupi 41 rfl rfl ?_
          refine z_get 44 rfl rfl (by first | exact e1 | exact e2 | exact mg_k e1 e2 (by simp)) rfl ?_
          refine z_push 45 (nI 1) rfl rfl rfl ?_
          refine z_bop 46 _ rfl rfl (by first | with_reducible exact zb_0 _ _ | exact zd_0 _ _) ?_
          refine z_put 49 rfl rfl (by first | exact e1 | exact e2 | exact mg_k e1 e2 (by simp)) rfl (mFi rfl) ?_
          refine z_iinc 52 _ rfl rfl rfl rfl (by show nI k + -1 = nI k - 1; rw [Int32.sub_eq_add_neg]) ?_
          refine z_goto rfl ?_
          have h9 := ih (i + 1) (by omega)
          rw [← addN_s f c x len i, ← mSet_2 hrv (aI n (addN f c x len i)) (oRow v (nI (c + i)))] at h9
          rw [show len - 1 - i = k by omega] at h9
          exact h9
  refine z_in [some (.ref r), some (.int x), some (.int (nI len)), none] (by rfl) rfl rfl rfl ?_
  refine z_iload 1 rfl rfl rfl ?_
  refine z_push 2 1 rfl rfl rfl ?_
  refine z_bop 3 _ rfl rfl (zd_1 _ _) ?_
  refine z_istore 4 rfl rfl rfl rfl ?_
  have h9 := loop len 0 (by omega)
  rw [addN_0, mSet_id h2, Nat.add_zero, mSet_id h1] at h9
  exact h9
