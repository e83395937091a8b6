/-! Entries.preferredOf; Shifts.removeAt; java.util.Arrays.fill -/
def pfP (P : Nat → Int32) (f : Nat → Bool) (pt : Int32) (i : Nat) : Bool := decide (P i = pt) && f i
theorem rmv_s' (S : Nat → Int32) {k i : Nat} (h : k ≤ i) : upd (rmv S k i) i (rmv S k i (i + 1)) = rmv S k (i + 1) := by rw [rmv_at, rmv_s S h]
/-- x at the first i places -/
def fil9 (f : Nat → Int32) (x : Int32) (i : Nat) : Nat → Int32 := fun j => if j < i then x else f j
theorem fil9_0 (f : Nat → Int32) (x : Int32) : fil9 f x 0 = f := by funext j; simp [fil9]
theorem fil9_s (f : Nat → Int32) (x : Int32) (i : Nat) : upd (fil9 f x i) i x = fil9 f x (i + 1) := by
  funext j
  simp only [fil9, upd]
  by_cases hj : j = i
  · subst hj
    rw [if_pos rfl, if_pos (by omega)]
  · rw [if_neg hj]
    by_cases h2 : j < i
    · rw [if_pos h2, if_pos (by omega)]
    · rw [if_neg h2, if_neg (by omega)]
theorem cnt9_go {d : Nat} {t : mK} {Q : mP} {pc : Nat} {x y : Value} {z : Value} {a b : Nat} {h : mH} (e : a = b) (k : mZ d t 0 0 Q pc [some x, some y, some (.int (nI a)), some z] [] h 0 0) : mZ d t 0 0 Q pc [some x, some y, some (.int (nI b)), some z] [] h 0 0 := e ▸ k
set_option maxRecDepth 10000 in
theorem c_Ent_preferredOf {d : Nat} {h : mH} {e n c : Nat} {S T N P : Nat → Int32} {f : Nat → Bool} {pt : Int32} {Q : mP} (hE : EntAt h e n S T N P (fun j => bI (f j)) c) (hn : n < 2 ^ 31) (hc : c ≤ n) (q : Q (some (.int (nI (cnt9 (pfP P f pt) c)))) h) : mWP (d + 1) 5 [.ref e, .int pt] h Q := by
  obtain ⟨E0, E1, E2, E3, E4, E5⟩ := hE
  have loop : ∀ m i, i + m = c → mZ d tk_5 0 0 Q 4 [some (.ref e), some (.int pt), some (.int (nI (cnt9 (pfP P f pt) i))), some (.int (nI i))] [] h 0 0 := by
    intro m
    induction m with
    | zero =>
      intro i hi
      obtain rfl : i = c := by omega
      refine z_iload 5 rfl rfl rfl ?_
      refine z_aload 6 rfl rfl rfl ?_
      refine z_get 9 rfl rfl E0 rfl ?_
      refine z_nge 12 rfl rfl (by omega) (by omega) (fun _ => ?_) (fun h9 => absurd h9 (by omega))
      refine z_iload 41 rfl rfl rfl ?_
      refine z_ireti rfl (Nat.le_refl _) (Nat.le_refl _) ?_
      exact q
    | succ m ih =>
      intro i hi
      refine z_iload 5 rfl rfl rfl ?_
      refine z_aload 6 rfl rfl rfl ?_
      refine z_get 9 rfl rfl (by first | exact E0 | exact E1 | exact E2 | exact E3 | exact E4 | exact E5) rfl ?_
      first | refine z_nge 12 rfl rfl (by omega) (by omega) (fun hc9 => ?_) (fun hc9 => ?_) | refine z_kge 12 rfl rfl (by omega) (fun hc9 => ?_) (fun hc9 => ?_) | refine z_hge 12 rfl rfl (by omega) (fun hc9 => ?_) (fun hc9 => ?_) | refine z_tge 12 rfl rfl (fun hc9 => ?_) (fun hc9 => ?_)
      · refine z_iload 41 rfl rfl rfl ?_
        refine z_ireti rfl (Nat.le_refl _) (Nat.le_refl _) ?_
        exact absurd hc9 (by omega)
      · refine z_aload 13 rfl rfl rfl ?_
        refine z_get 16 rfl rfl (by first | exact E0 | exact E1 | exact E2 | exact E3 | exact E4 | exact E5) rfl ?_
        refine z_iload 17 rfl rfl rfl ?_
        refine z_ald 18 rfl rfl (by first | exact E0 | exact E1 | exact E2 | exact E3 | exact E4 | exact E5) rfl (by omega) (by omega) ?_
        refine z_iload 19 rfl rfl rfl ?_
        refine z_cne 22 rfl rfl (fun hc19 => ?_) (fun hc19 => ?_)
        · refine z_iinc 37 _ rfl rfl rfl rfl (by first | with_reducible exact zi_1 _ | rfl) ?_
          refine z_goto rfl ?_
          first
          | (refine cnt9_go ?_ (ih (i + 1) (by omega)); simp [cnt9, pfP, hc19, hc28]; done)
          | (refine cnt9_go ?_ (ih (i + 1) (by omega)); simp [cnt9, pfP, hc19]; done)
        · refine z_aload 23 rfl rfl rfl ?_
          refine z_get 26 rfl rfl (by first | exact E0 | exact E1 | exact E2 | exact E3 | exact E4 | exact E5) rfl ?_
          refine z_iload 27 rfl rfl rfl ?_
          refine z_bld 28 rfl rfl (by first | exact E0 | exact E1 | exact E2 | exact E3 | exact E4 | exact E5) rfl (by omega) (by omega) ?_
          first | refine z_beq 31 rfl rfl (fun hc28 => ?_) (fun hc28 => ?_)
          · refine z_iinc 37 _ rfl rfl rfl rfl (by first | with_reducible exact zi_1 _ | rfl) ?_
            refine z_goto rfl ?_
            first
            | (refine cnt9_go ?_ (ih (i + 1) (by omega)); simp [cnt9, pfP, hc19, hc28]; done)
            | (refine cnt9_go ?_ (ih (i + 1) (by omega)); simp [cnt9, pfP, hc19]; done)
          · refine z_iinc 34 _ rfl rfl rfl rfl (by first | with_reducible exact zi_1 _ | rfl) ?_
            refine z_iinc 37 _ rfl rfl rfl rfl (by first | with_reducible exact zi_1 _ | rfl) ?_
            refine z_goto rfl ?_
            first
            | (refine cnt9_go ?_ (ih (i + 1) (by omega)); simp [cnt9, pfP, hc19, hc28]; done)
            | (refine cnt9_go ?_ (ih (i + 1) (by omega)); simp [cnt9, pfP, hc19]; done)
  refine z_in [some (.ref e), some (.int pt), none, none] (by rfl) rfl rfl rfl ?_
  refine z_push 1 (nI 0) rfl rfl rfl ?_
  refine z_istore 2 rfl rfl rfl rfl ?_
  refine z_push 3 (nI 0) rfl rfl rfl ?_
  refine z_istore 4 rfl rfl rfl rfl ?_
  exact loop c 0 (by omega)
set_option maxRecDepth 10000 in
theorem c_Sh_removeAt {d : Nat} {h : mH} {e n c k : Nat} {S V G K : Nat → Int32} {Q : mP} (hE : ShAt h e n S V G K c) (hn : n < 2 ^ 31) (hk : k < c) (hc : c ≤ n) (hK : ∀ j, K j = 0 ∨ K j = 1) (q : ∀ h', ShAt h' e n (rmv S k (c - 1)) (rmv V k (c - 1)) (rmv G k (c - 1)) (rmv K k (c - 1)) (c - 1) → Fr e (e + 5) h h' → Q none h') : mWP (d + 1) 93 [.ref e, .int (nI k)] h Q := by
  have loop : ∀ m i, i + m = c - 1 → k ≤ i → ∀ h1, ShAt h1 e n (rmv S k i) (rmv V k i) (rmv G k i) (rmv K k i) c → Fr e (e + 5) h h1 → mZ d tk_93 0 0 Q 15 [some (.ref e), some (.int (nI k)), some (.int (nI i))] [] h1 0 0 := by
    intro m
    induction m with
    | zero =>
      intro i hi hki h1 hE1 hf1
      obtain rfl : i = c - 1 := by omega
      obtain ⟨E0, E1, E2, E3, E4⟩ := hE1
      refine z_iload 16 rfl rfl rfl ?_
      refine z_push 17 (nI 1) rfl rfl rfl ?_
      refine z_bop 18 _ rfl rfl (zb_0 _ _) ?_
      refine z_aload 19 rfl rfl rfl ?_
      refine z_get 22 rfl rfl E0 rfl ?_
      refine z_nge 25 rfl rfl (by omega) (by omega) (fun _ => ?_) (fun h9 => absurd h9 (by omega))
      refine z_aload 88 rfl rfl rfl ?_
      first | refine z_dup 89 rfl rfl ?_ | refine z_dupi 89 rfl rfl ?_
      refine z_get 92 rfl rfl E0 rfl ?_
      refine z_push 93 (nI 1) rfl rfl rfl ?_
      refine z_bop 94 _ rfl rfl (by first | with_reducible exact zb_1 (by omega) | exact zd_1 _ _) ?_
      refine z_put 97 rfl rfl E0 rfl (mFi rfl) ?_
      refine z_vret rfl (Nat.le_refl _) (Nat.le_refl _) ?_
      refine q _ ⟨mg_eq _ _ _, mg_ne (by omega) E1, mg_ne (by omega) E2, mg_ne (by omega) E3, mg_ne (by omega) E4⟩ (Fr.set hf1 (by omega) (by omega))
    | succ m ih =>
      intro i hi hki h1 hE1 hf1
      obtain ⟨E0, E1, E2, E3, E4⟩ := id hE1
      refine z_iload 16 rfl rfl rfl ?_
      refine z_push 17 (nI 1) rfl rfl rfl ?_
      refine z_bop 18 _ rfl rfl (by first | with_reducible exact zb_0 _ _ | exact zd_0 _ _) ?_
      refine z_aload 19 rfl rfl rfl ?_
      refine z_get 22 rfl rfl (by repeat (first | exact E0 | exact E1 | exact E2 | exact E3 | exact E4 | exact mg_eq _ _ _ | refine mg_ne (by omega) ?_)) rfl ?_
      first | refine z_nge 25 rfl rfl (by omega) (by omega) (fun hc22 => ?_) (fun hc22 => ?_) | refine z_kge 25 rfl rfl (by omega) (fun hc22 => ?_) (fun hc22 => ?_) | refine z_hge 25 rfl rfl (by omega) (fun hc22 => ?_) (fun hc22 => ?_) | refine z_tge 25 rfl rfl (fun hc22 => ?_) (fun hc22 => ?_)
      · refine z_aload 88 rfl rfl rfl ?_
        first | refine z_dup 89 rfl rfl ?_ | refine z_dupi 89 rfl rfl ?_
        refine z_get 92 rfl rfl (by repeat (first | exact E0 | exact E1 | exact E2 | exact E3 | exact E4 | exact mg_eq _ _ _ | refine mg_ne (by omega) ?_)) rfl ?_
        refine z_push 93 (nI 1) rfl rfl rfl ?_
        refine z_bop 94 _ rfl rfl (by first | with_reducible exact zb_1 (by omega) | exact zd_1 _ _) ?_
        refine z_put 97 rfl rfl (by repeat (first | exact E0 | exact E1 | exact E2 | exact E3 | exact E4 | exact mg_eq _ _ _ | refine mg_ne (by omega) ?_)) rfl (mFi rfl) ?_
        refine z_vret rfl (Nat.le_refl _) (Nat.le_refl _) ?_
        exact absurd hc22 (by omega)
      · refine z_aload 26 rfl rfl rfl ?_
        refine z_get 29 rfl rfl (by repeat (first | exact E0 | exact E1 | exact E2 | exact E3 | exact E4 | exact mg_eq _ _ _ | refine mg_ne (by omega) ?_)) rfl ?_
        refine z_iload 30 rfl rfl rfl ?_
        refine z_aload 31 rfl rfl rfl ?_
        refine z_get 34 rfl rfl (by repeat (first | exact E0 | exact E1 | exact E2 | exact E3 | exact E4 | exact mg_eq _ _ _ | refine mg_ne (by omega) ?_)) rfl ?_
        refine z_iload 35 rfl rfl rfl ?_
        refine z_push 36 (nI 1) rfl rfl rfl ?_
        refine z_bop 37 _ rfl rfl (by first | with_reducible exact zb_0 _ _ | exact zd_0 _ _) ?_
        refine z_ald 38 rfl rfl (by repeat (first | exact E0 | exact E1 | exact E2 | exact E3 | exact E4 | exact mg_eq _ _ _ | refine mg_ne (by omega) ?_)) rfl (by omega) (by omega) ?_
        refine z_ast 39 rfl rfl (by repeat (first | exact E0 | exact E1 | exact E2 | exact E3 | exact E4 | exact mg_eq _ _ _ | refine mg_ne (by omega) ?_)) rfl (by omega) (by omega) ?_
        refine z_aload 40 rfl rfl rfl ?_
        refine z_get 43 rfl rfl (by repeat (first | exact E0 | exact E1 | exact E2 | exact E3 | exact E4 | exact mg_eq _ _ _ | refine mg_ne (by omega) ?_)) rfl ?_
        refine z_iload 44 rfl rfl rfl ?_
        refine z_aload 45 rfl rfl rfl ?_
        refine z_get 48 rfl rfl (by repeat (first | exact E0 | exact E1 | exact E2 | exact E3 | exact E4 | exact mg_eq _ _ _ | refine mg_ne (by omega) ?_)) rfl ?_
        refine z_iload 49 rfl rfl rfl ?_
        refine z_push 50 (nI 1) rfl rfl rfl ?_
        refine z_bop 51 _ rfl rfl (by first | with_reducible exact zb_0 _ _ | exact zd_0 _ _) ?_
        refine z_ald 52 rfl rfl (by repeat (first | exact E0 | exact E1 | exact E2 | exact E3 | exact E4 | exact mg_eq _ _ _ | refine mg_ne (by omega) ?_)) rfl (by omega) (by omega) ?_
        refine z_ast 53 rfl rfl (by repeat (first | exact E0 | exact E1 | exact E2 | exact E3 | exact E4 | exact mg_eq _ _ _ | refine mg_ne (by omega) ?_)) rfl (by omega) (by omega) ?_
        refine z_aload 54 rfl rfl rfl ?_
        refine z_get 57 rfl rfl (by repeat (first | exact E0 | exact E1 | exact E2 | exact E3 | exact E4 | exact mg_eq _ _ _ | refine mg_ne (by omega) ?_)) rfl ?_
        refine z_iload 58 rfl rfl rfl ?_
        refine z_aload 59 rfl rfl rfl ?_
        refine z_get 62 rfl rfl (by repeat (first | exact E0 | exact E1 | exact E2 | exact E3 | exact E4 | exact mg_eq _ _ _ | refine mg_ne (by omega) ?_)) rfl ?_
        refine z_iload 63 rfl rfl rfl ?_
        refine z_push 64 (nI 1) rfl rfl rfl ?_
        refine z_bop 65 _ rfl rfl (by first | with_reducible exact zb_0 _ _ | exact zd_0 _ _) ?_
        refine z_ald 66 rfl rfl (by repeat (first | exact E0 | exact E1 | exact E2 | exact E3 | exact E4 | exact mg_eq _ _ _ | refine mg_ne (by omega) ?_)) rfl (by omega) (by omega) ?_
        refine z_ast 67 rfl rfl (by repeat (first | exact E0 | exact E1 | exact E2 | exact E3 | exact E4 | exact mg_eq _ _ _ | refine mg_ne (by omega) ?_)) rfl (by omega) (by omega) ?_
        refine z_aload 68 rfl rfl rfl ?_
        refine z_get 71 rfl rfl (by repeat (first | exact E0 | exact E1 | exact E2 | exact E3 | exact E4 | exact mg_eq _ _ _ | refine mg_ne (by omega) ?_)) rfl ?_
        refine z_iload 72 rfl rfl rfl ?_
        refine z_aload 73 rfl rfl rfl ?_
        refine z_get 76 rfl rfl (by repeat (first | exact E0 | exact E1 | exact E2 | exact E3 | exact E4 | exact mg_eq _ _ _ | refine mg_ne (by omega) ?_)) rfl ?_
        refine z_iload 77 rfl rfl rfl ?_
        refine z_push 78 (nI 1) rfl rfl rfl ?_
        refine z_bop 79 _ rfl rfl (by first | with_reducible exact zb_0 _ _ | exact zd_0 _ _) ?_
        refine z_bld 80 rfl rfl (by repeat (first | exact E0 | exact E1 | exact E2 | exact E3 | exact E4 | exact mg_eq _ _ _ | refine mg_ne (by omega) ?_)) rfl (by omega) (by omega) ?_
        refine z_bst 81 rfl rfl (by repeat (first | exact E0 | exact E1 | exact E2 | exact E3 | exact E4 | exact mg_eq _ _ _ | refine mg_ne (by omega) ?_)) rfl (by omega) (by omega) (by rw [rmv_at]; exact hK _) ?_
        refine z_iinc 84 _ rfl rfl rfl rfl (by first | with_reducible exact zi_1 _ | rfl) ?_
        refine z_goto rfl ?_
        refine ih (i + 1) (by omega) (by omega) _ ?_ (Fr.set (Fr.set (Fr.set (Fr.set hf1 (by omega) (by omega)) (by omega) (by omega)) (by omega) (by omega)) (by omega) (by omega))
        rw [← rmv_s' S hki, ← rmv_s' V hki, ← rmv_s' G hki, ← rmv_s' K hki]
        exact ⟨(by repeat (first | exact E0 | exact E1 | exact E2 | exact E3 | exact E4 | exact mg_eq _ _ _ | refine mg_ne (by omega) ?_)), (by repeat (first | exact E0 | exact E1 | exact E2 | exact E3 | exact E4 | exact mg_eq _ _ _ | refine mg_ne (by omega) ?_)), (by repeat (first | exact E0 | exact E1 | exact E2 | exact E3 | exact E4 | exact mg_eq _ _ _ | refine mg_ne (by omega) ?_)), (by repeat (first | exact E0 | exact E1 | exact E2 | exact E3 | exact E4 | exact mg_eq _ _ _ | refine mg_ne (by omega) ?_)), (by repeat (first | exact E0 | exact E1 | exact E2 | exact E3 | exact E4 | exact mg_eq _ _ _ | refine mg_ne (by omega) ?_))⟩
  refine z_in [some (.ref e), some (.int (nI k)), none] (by rfl) rfl rfl rfl ?_
  refine z_iload 1 rfl rfl rfl ?_
  first | refine z_zlt 4 rfl rfl (by omega) (fun hc1 => ?_) (fun hc1 => ?_) | refine z_jlt 4 rfl rfl (fun hc1 => ?_) (fun hc1 => ?_)
  · refine z_vret rfl (Nat.le_refl _) (Nat.le_refl _) ?_
    first | exact absurd hc1 (by omega) | exact absurd hc9 (by omega)
  · refine z_iload 5 rfl rfl rfl ?_
    refine z_aload 6 rfl rfl rfl ?_
    refine z_get 9 rfl rfl hE.1 rfl ?_
    first | refine z_nlt 12 rfl rfl (by omega) (by omega) (fun hc9 => ?_) (fun hc9 => ?_) | refine z_klt 12 rfl rfl (by omega) (fun hc9 => ?_) (fun hc9 => ?_) | refine z_hlt 12 rfl rfl (by omega) (fun hc9 => ?_) (fun hc9 => ?_) | refine z_tlt 12 rfl rfl (fun hc9 => ?_) (fun hc9 => ?_)
    · refine z_iload 14 rfl rfl rfl ?_
      refine z_istore 15 rfl rfl rfl rfl ?_
      exact loop (c - 1 - k) k (by omega) (Nat.le_refl k) h (by rw [rmv_0, rmv_0, rmv_0, rmv_0]; exact hE) Fr.rfl
    · refine z_vret rfl (Nat.le_refl _) (Nat.le_refl _) ?_
      first | exact absurd hc1 (by omega) | exact absurd hc9 (by omega)
set_option maxRecDepth 10000 in
theorem c_fill {d : Nat} {h : mH} {v n : Nat} {f : Nat → Int32} {x : Int32} {Q : mP} (h2 : h.2 v = aI n f) (hn : n < 2 ^ 31) (q : Q none (mSet h v (aI n (fil9 f x n)))) : mWP (d + 1) 261 [.ref v, .int x] h Q := by
  have loop : ∀ m i, i + m = n → mZ d tk_261 0 0 Q 5 [some (.ref v), some (.int x), some (.int (nI i)), some (.int (nI n))] [] (mSet h v (aI n (fil9 f x i))) 0 0 := by
    intro m
    induction m with
    | zero =>
      intro i hi
      obtain rfl : i = n := by omega
      refine z_iload 6 rfl rfl rfl ?_
      refine z_iload 7 rfl rfl rfl ?_
      refine z_nge 10 rfl rfl (by omega) (by omega) (fun _ => ?_) (fun h9 => absurd h9 (by omega))
      refine z_vret rfl (Nat.le_refl _) (Nat.le_refl _) ?_
      exact q
    | succ m ih =>
      intro i hi
      refine z_iload 6 rfl rfl rfl ?_
      refine z_iload 7 rfl rfl rfl ?_
      first | refine z_nge 10 rfl rfl (by omega) (by omega) (fun hc7 => ?_) (fun hc7 => ?_) | refine z_kge 10 rfl rfl (by omega) (fun hc7 => ?_) (fun hc7 => ?_) | refine z_hge 10 rfl rfl (by omega) (fun hc7 => ?_) (fun hc7 => ?_) | refine z_tge 10 rfl rfl (fun hc7 => ?_) (fun hc7 => ?_)
      · refine z_vret rfl (Nat.le_refl _) (Nat.le_refl _) ?_
        exact absurd hc7 (by omega)
      · refine z_aload 11 rfl rfl rfl ?_
        refine z_iload 12 rfl rfl rfl ?_
        refine z_iload 13 rfl rfl rfl ?_
        refine z_ast 14 rfl rfl (mg_eq _ _ _) rfl (by omega) (by omega) ?_
        refine z_iinc 17 _ rfl rfl rfl rfl (by first | with_reducible exact zi_1 _ | rfl) ?_
        refine z_goto rfl ?_
        have h9 := ih (i + 1) (by omega)
        rw [← fil9_s, ← mSet_ss h v (aI n (fil9 f x i))] at h9
        exact h9
  refine z_in [some (.ref v), some (.int x), none, none] (by rfl) rfl rfl rfl ?_
  refine z_push 1 (nI 0) rfl rfl rfl ?_
  refine z_istore 2 rfl rfl rfl rfl ?_
  refine z_aload 3 rfl rfl rfl ?_
  refine z_alen 4 rfl rfl h2 (by decide) ?_
  refine z_istore 5 rfl rfl rfl rfl ?_
  have h9 := loop n 0 (by omega)
  rw [fil9_0, mSet_id h2] at h9
  exact h9
