/-! Row: points, numbers; joined, lowHalvesOf, isPoint, isText -/
def uN9 (p : Nat) : Nat := if p < 65536 then 1 else 2
/-- a point's units behind the first c -/
def addU (f : Nat → Int32) (c p : Nat) : Nat → Int32 := if p < 65536 then upd f c (nI p) else upd (upd f c (nI (55296 + (p - 65536) / 1024))) (c + 1) (nI (56320 + (p - 65536) % 1024))
def joinI (x y : Int32) : Int32 := nI 65536 + (x - nI 55296) * nI 1024 + (y - nI 56320)
def packN (f : Nat → Int32) (a : Nat) : Nat → Int32
  | 0 => 0
  | k + 1 => (packN f a k <<< (nI 8 &&& 31)) ||| f (a + k)
def ptAt (f : Nat → Int32) (c a : Nat) : Int32 := if jHalf (f a) = true then (if jHigh (f a) = true ∧ a + 1 < c ∧ jLow (f (a + 1)) = true then joinI (f a) (f (a + 1)) else -1) else f a
def jPoint (x : Int32) : Bool := decide (0 ≤ x.toInt ∧ x.toInt ≤ 1114111) && !jHalf x
def jLh (x : Int32) : Int32 := if x.toInt < 65536 then 0 else 1
set_option maxRecDepth 10000 in
theorem c_joined {d : Nat} {h : mH} {x y : Int32} {Q : mP} (q : Q (some (.int (joinI x y))) h) : mWP (d + 1) 143 [.int x, .int y] h Q := by
  refine z_in [some (.int x), some (.int y)] (by rfl) rfl rfl rfl ?_
  refine z_push 3 (nI 65536) rfl rfl rfl ?_
  refine z_iload 4 rfl rfl rfl ?_
  refine z_push 7 (nI 55296) rfl rfl rfl ?_
  refine z_bop 8 _ rfl rfl (by first | with_reducible exact zb_1 (by omega) | exact zd_1 _ _) ?_
  refine z_push 11 (nI 1024) rfl rfl rfl ?_
  refine z_bop 12 _ rfl rfl (by first | with_reducible exact zb_2 _ _ | exact zd_2 _ _) ?_
  refine z_bop 13 _ rfl rfl (by first | with_reducible exact zb_0 _ _ | exact zd_0 _ _) ?_
  refine z_iload 14 rfl rfl rfl ?_
  refine z_push 17 (nI 56320) rfl rfl rfl ?_
  refine z_bop 18 _ rfl rfl (by first | with_reducible exact zb_1 (by omega) | exact zd_1 _ _) ?_
  refine z_bop 19 _ rfl rfl (by first | with_reducible exact zb_0 _ _ | exact zd_0 _ _) ?_
  refine z_ireti rfl (Nat.le_refl _) (Nat.le_refl _) ?_
  exact q
set_option maxRecDepth 10000 in
theorem c_lowHalvesOf {d : Nat} {h : mH} {x : Int32} {Q : mP} (q : Q (some (.int (jLh x))) h) : mWP (d + 1) 144 [.int x] h Q := by
  refine z_in [some (.int x)] (by rfl) rfl rfl rfl ?_
  refine z_iload 1 rfl rfl rfl ?_
  refine z_push 4 (nI 65536) rfl rfl rfl ?_
  first | refine z_nge 7 rfl rfl (by omega) (by omega) (fun hc4 => ?_) (fun hc4 => ?_) | refine z_kge 7 rfl rfl (by omega) (fun hc4 => ?_) (fun hc4 => ?_) | refine z_hge 7 rfl rfl (by omega) (fun hc4 => ?_) (fun hc4 => ?_) | refine z_tge 7 rfl rfl (fun hc4 => ?_) (fun hc4 => ?_)
  · refine z_push 12 (nI 1) rfl rfl rfl ?_
    refine z_ireti rfl (Nat.le_refl _) (Nat.le_refl _) ?_
    first | exact zq q (by rw [show jLh x = 0 from if_pos (by omega)]; rfl) | exact zq q (by rw [show jLh x = 1 from if_neg (by omega)]; rfl)
  · refine z_push 8 (nI 0) rfl rfl rfl ?_
    refine z_goto rfl ?_
    refine z_ireti rfl (Nat.le_refl _) (Nat.le_refl _) ?_
    first | exact zq q (by rw [show jLh x = 0 from if_pos (by omega)]; rfl) | exact zq q (by rw [show jLh x = 1 from if_neg (by omega)]; rfl)
set_option maxRecDepth 10000 in
theorem c_isPoint {d : Nat} {h : mH} {x : Int32} {Q : mP} (q : Q (some (.int (bI (jPoint x)))) h) : mWP (d + 2) 145 [.int x] h Q := by
  refine z_in [some (.int x)] (by rfl) rfl rfl rfl ?_
  refine z_iload 1 rfl rfl rfl ?_
  first | refine z_zlt 4 rfl rfl (by omega) (fun hc1 => ?_) (fun hc1 => ?_) | refine z_jlt 4 rfl rfl (fun hc1 => ?_) (fun hc1 => ?_)
  · refine z_push 23 (nI 0) rfl rfl rfl ?_
    refine z_iretb rfl (Nat.le_refl _) (Nat.le_refl _) (by first | decide | exact bI_01 _) ?_
    first | exact zq q (by rw [show jPoint x = true by rw [jPoint, hc15, decide_eq_true (by omega)]; rfl]; rfl) | exact zq q (by rw [show jPoint x = false by rw [jPoint, decide_eq_false (by omega)]; rfl]; rfl) | exact zq q (by rw [show jPoint x = false by rw [jPoint, hc15]; simp]; rfl)
  · refine z_iload 5 rfl rfl rfl ?_
    refine z_push 8 (nI 1114111) rfl rfl rfl ?_
    first | refine z_ngt 11 rfl rfl (by omega) (by omega) (fun hc8 => ?_) (fun hc8 => ?_) | refine z_kgt 11 rfl rfl (by omega) (fun hc8 => ?_) (fun hc8 => ?_) | refine z_hgt 11 rfl rfl (by omega) (fun hc8 => ?_) (fun hc8 => ?_) | refine z_tgt 11 rfl rfl (fun hc8 => ?_) (fun hc8 => ?_)
    · refine z_push 23 (nI 0) rfl rfl rfl ?_
      refine z_iretb rfl (Nat.le_refl _) (Nat.le_refl _) (by first | decide | exact bI_01 _) ?_
      first | exact zq q (by rw [show jPoint x = true by rw [jPoint, hc15, decide_eq_true (by omega)]; rfl]; rfl) | exact zq q (by rw [show jPoint x = false by rw [jPoint, decide_eq_false (by omega)]; rfl]; rfl) | exact zq q (by rw [show jPoint x = false by rw [jPoint, hc15]; simp]; rfl)
    · refine z_iload 12 rfl rfl rfl ?_
      refine z_cs 15 _ rfl rfl rfl rfl rfl rfl (Nat.le_refl _) (Nat.le_refl _) ?_
      refine c_isHalf ?_
      first | refine z_bne 18 rfl rfl (fun hc15 => ?_) (fun hc15 => ?_) | refine z_zne 18 rfl rfl (by omega) (fun hc15 => ?_) (fun hc15 => ?_) | refine z_jne 18 rfl rfl (fun hc15 => ?_) (fun hc15 => ?_)
      · refine z_push 23 (nI 0) rfl rfl rfl ?_
        refine z_iretb rfl (Nat.le_refl _) (Nat.le_refl _) (by first | decide | exact bI_01 _) ?_
        first | exact zq q (by rw [show jPoint x = true by rw [jPoint, hc15, decide_eq_true (by omega)]; rfl]; rfl) | exact zq q (by rw [show jPoint x = false by rw [jPoint, decide_eq_false (by omega)]; rfl]; rfl) | exact zq q (by rw [show jPoint x = false by rw [jPoint, hc15]; simp]; rfl)
      · refine z_push 19 (nI 1) rfl rfl rfl ?_
        refine z_goto rfl ?_
        refine z_iretb rfl (Nat.le_refl _) (Nat.le_refl _) (by first | decide | exact bI_01 _) ?_
        first | exact zq q (by rw [show jPoint x = true by rw [jPoint, hc15, decide_eq_true (by omega)]; rfl]; rfl) | exact zq q (by rw [show jPoint x = false by rw [jPoint, decide_eq_false (by omega)]; rfl]; rfl) | exact zq q (by rw [show jPoint x = false by rw [jPoint, hc15]; simp]; rfl)
set_option maxRecDepth 10000 in
theorem c_Row_addPoint {d : Nat} {h : mH} {r v n c p : Nat} {f : Nat → Int32} {Q : mP} (h1 : h.2 r = oRow v (nI c)) (h2 : h.2 v = aI n f) (hn : n < 2 ^ 31) (hp : p < 1114112) (hc : c + uN9 p ≤ n) (q : Q none (mSet (mSet h v (aI n (addU f c p))) r (oRow v (nI (c + uN9 p))))) : mWP (d + 2) 75 [.ref r, .int (nI p)] h Q := by
  have hrv : v ≠ r := mg_apart h2 h1 (by simp)
  have hu : (p < 65536 ∧ uN9 p = 1) ∨ (65536 ≤ p ∧ uN9 p = 2) := by unfold uN9; split <;> omega
  refine z_in [some (.ref r), some (.int (nI p))] (by rfl) rfl rfl rfl ?_
  refine z_iload 1 rfl rfl rfl ?_
  refine z_push 3 (nI 65536) rfl rfl rfl ?_
  first | refine z_nge 6 rfl rfl (by omega) (by omega) (fun hc3 => ?_) (fun hc3 => ?_) | refine z_kge 6 rfl rfl (by omega) (fun hc3 => ?_) (fun hc3 => ?_) | refine z_hge 6 rfl rfl (by omega) (fun hc3 => ?_) (fun hc3 => ?_) | refine z_tge 6 rfl rfl (fun hc3 => ?_) (fun hc3 => ?_)
  · refine z_aload 16 rfl rfl rfl ?_
    refine z_push 18 (nI 55296) rfl rfl rfl ?_
    refine z_iload 19 rfl rfl rfl ?_
    refine z_push 21 (nI 65536) rfl rfl rfl ?_
    refine z_bop 22 _ rfl rfl (by first | with_reducible exact zb_1 (by omega) | exact zd_1 _ _) ?_
    refine z_push 25 (nI 1024) rfl rfl rfl ?_
    refine z_idiv 26 _ rfl rfl (by decide) (pk_div (by omega) (by omega) (by omega)) ?_
    refine z_bop 27 _ rfl rfl (by first | with_reducible exact zb_0 _ _ | exact zd_0 _ _) ?_
    refine z_cv 30 _ rfl rfl rfl rfl (by first | exact h1 | exact h2 | exact e1) rfl rfl (Nat.le_refl _) (Nat.le_refl _) ?_
    refine c_Row_add h1 h2 hn (by omega) (fun _ => ?_) (fun h9 => absurd h9 (by omega))
    have e1 : (mSet (mSet h v (aI n (upd f c (nI (55296 + (p - 65536) / 1024))))) r (oRow v (nI (c + 1)))).2 r = oRow v (nI (c + 1)) := mg_eq _ _ _
    have e2 : (mSet (mSet h v (aI n (upd f c (nI (55296 + (p - 65536) / 1024))))) r (oRow v (nI (c + 1)))).2 v = aI n (upd f c (nI (55296 + (p - 65536) / 1024))) := mg_ne hrv (mg_eq _ _ _)
    refine z_pop 31 rfl rfl ?_
    refine z_aload 32 rfl rfl rfl ?_
    refine z_push 34 (nI 56320) rfl rfl rfl ?_
    refine z_iload 35 rfl rfl rfl ?_
    refine z_push 37 (nI 65536) rfl rfl rfl ?_
    refine z_bop 38 _ rfl rfl (by first | with_reducible exact zb_1 (by omega) | exact zd_1 _ _) ?_
    refine z_push 41 (nI 1024) rfl rfl rfl ?_
    refine z_irem 42 _ rfl rfl (by decide) (pk_rem (by omega) (by omega) (by omega)) ?_
    refine z_bop 43 _ rfl rfl (by first | with_reducible exact zb_0 _ _ | exact zd_0 _ _) ?_
    refine z_cv 46 _ rfl rfl rfl rfl (by first | exact h1 | exact h2 | exact e1) rfl rfl (Nat.le_refl _) (Nat.le_refl _) ?_
    refine c_Row_add e1 e2 hn (by omega) (fun _ => ?_) (fun h9 => absurd h9 (by omega))
    refine z_pop 47 rfl rfl ?_
    refine z_vret rfl (Nat.le_refl _) (Nat.le_refl _) ?_
    first
    | (simp only [addU, uN9, if_pos (show p < 65536 by omega)] at q; exact q)
    | (simp only [addU, uN9, if_neg (show ¬ p < 65536 by omega)] at q; rw [mSet_2 hrv]; exact q)
  · refine z_aload 7 rfl rfl rfl ?_
    refine z_iload 8 rfl rfl rfl ?_
    refine z_cv 11 _ rfl rfl rfl rfl (by first | exact h1 | exact h2 | exact e1) rfl rfl (Nat.le_refl _) (Nat.le_refl _) ?_
    refine c_Row_add h1 h2 hn (by omega) (fun _ => ?_) (fun h9 => absurd h9 (by omega))
    refine z_pop 12 rfl rfl ?_
    refine z_goto rfl ?_
    refine z_vret rfl (Nat.le_refl _) (Nat.le_refl _) ?_
    first
    | (simp only [addU, uN9, if_pos (show p < 65536 by omega)] at q; exact q)
    | (simp only [addU, uN9, if_neg (show ¬ p < 65536 by omega)] at q; rw [mSet_2 hrv]; exact q)
set_option maxRecDepth 10000 in
theorem c_packed {d : Nat} {h : mH} {v n a k : Nat} {f : Nat → Int32} {Q : mP} (h2 : h.2 v = aI n f) (hn : n < 2 ^ 31) (ha : a + k ≤ n) (q : Q (some (.int (packN f a k))) h) : mWP (d + 1) 77 [.ref v, .int (nI a), .int (nI k)] h Q := by
  have loop : ∀ m i, i + m = k → mZ d tk_77 0 0 Q 5 [some (.ref v), some (.int (nI a)), some (.int (nI k)), some (.int (packN f a i)), some (.int (nI (a + i)))] [] h 0 0 := by
    intro m
    induction m with
    | zero =>
      intro i hi
      obtain rfl : i = k := by omega
      refine z_iload 7 rfl rfl rfl ?_
      refine z_iload 8 rfl rfl rfl ?_
      refine z_iload 9 rfl rfl rfl ?_
      refine z_bop 10 _ rfl rfl (nI_add _ _) ?_
      refine z_nge 13 rfl rfl (by omega) (by omega) (fun hc10 => ?_) (fun hc10 => absurd hc10 (by omega))
      refine z_iload 37 rfl rfl rfl ?_
      refine z_ireti rfl (Nat.le_refl _) (Nat.le_refl _) ?_
      exact q
    | succ m ih =>
      intro i hi
      refine z_iload 7 rfl rfl rfl ?_
      refine z_iload 8 rfl rfl rfl ?_
      refine z_iload 9 rfl rfl rfl ?_
      refine z_bop 10 _ rfl rfl (by first | with_reducible exact zb_0 _ _ | exact zd_0 _ _) ?_
      first | refine z_nge 13 rfl rfl (by omega) (by omega) (fun hc10 => ?_) (fun hc10 => ?_) | refine z_kge 13 rfl rfl (by omega) (fun hc10 => ?_) (fun hc10 => ?_) | refine z_hge 13 rfl rfl (by omega) (fun hc10 => ?_) (fun hc10 => ?_) | refine z_tge 13 rfl rfl (fun hc10 => ?_) (fun hc10 => ?_)
      · refine z_iload 37 rfl rfl rfl ?_
        refine z_ireti rfl (Nat.le_refl _) (Nat.le_refl _) ?_
        exact absurd hc10 (by omega)
      · refine z_iload 15 rfl rfl rfl ?_
        refine z_aload 16 rfl rfl rfl ?_
        refine z_alen 17 rfl rfl h2 (by decide) ?_
        first | refine z_nge 20 rfl rfl (by omega) (by omega) (fun hc17 => ?_) (fun hc17 => ?_) | refine z_kge 20 rfl rfl (by omega) (fun hc17 => ?_) (fun hc17 => ?_) | refine z_hge 20 rfl rfl (by omega) (fun hc17 => ?_) (fun hc17 => ?_) | refine z_tge 20 rfl rfl (fun hc17 => ?_) (fun hc17 => ?_)
        · refine z_iload 37 rfl rfl rfl ?_
          refine z_ireti rfl (Nat.le_refl _) (Nat.le_refl _) ?_
          exact absurd hc10 (by omega)
        · refine z_iload 21 rfl rfl rfl ?_
          refine z_push 23 (nI 8) rfl rfl rfl ?_
          refine z_bop 24 _ rfl rfl (zd_6 _ _) ?_
          refine z_aload 25 rfl rfl rfl ?_
          refine z_iload 27 rfl rfl rfl ?_
          refine z_ald 28 rfl rfl h2 rfl (by omega) (by omega) ?_
          refine z_bop 29 _ rfl rfl (zd_4 _ _) ?_
          refine z_istore 30 rfl rfl rfl rfl ?_
          refine z_iinc 33 _ rfl rfl rfl rfl (by first | with_reducible exact zi_1 _ | rfl) ?_
          refine z_goto rfl ?_
          exact ih (i + 1) (by omega)
  refine z_in [some (.ref v), some (.int (nI a)), some (.int (nI k)), none, none] (by rfl) rfl rfl rfl ?_
  refine z_push 1 (nI 0) rfl rfl rfl ?_
  refine z_istore 2 rfl rfl rfl rfl ?_
  refine z_iload 3 rfl rfl rfl ?_
  refine z_istore 5 rfl rfl rfl rfl ?_
  exact loop k 0 (by omega)
