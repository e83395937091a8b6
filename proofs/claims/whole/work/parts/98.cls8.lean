/-! the class: points within ends -/
theorem cnt9_cut {p : Nat → Bool} {r : Nat} : ∀ {n : Nat}, r ≤ n → (∀ j, j < r → p j = true) → (∀ j, r ≤ j → j < n → p j = false) → cnt9 p n = r
  | 0, h, _, _ => by simp only [cnt9]; omega
  | n + 1, h, h1, h2 => by
    simp only [cnt9]
    by_cases e : r = n + 1
    · rw [cnt9_cut (r := n) (Nat.le_refl _) (fun j hj => h1 j (by omega)) (fun j h3 h4 => by omega), h1 n (by omega), if_pos rfl, e]
    · rw [cnt9_cut (r := r) (by omega) h1 (fun j h3 h4 => h2 j h3 (by omega)), h2 n (by omega) (by omega)]
      simp
theorem cnt9_sum {p q r : Nat → Bool} : ∀ {n : Nat}, (∀ j, j < n → (if p j = true then 1 else 0) = (if q j = true then 1 else 0) + (if r j = true then 1 else 0)) → cnt9 p n = cnt9 q n + cnt9 r n
  | 0, _ => rfl
  | n + 1, h => by
    simp only [cnt9]
    rw [cnt9_sum (fun j hj => h j (by omega)), h n (by omega)]
    omega
theorem cnt9_at {p : Nat → Bool} {k : Nat} : ∀ {n : Nat}, k < n → p k = true → (∀ j, j < n → p j = true → j = k) → cnt9 p n = 1
  | 0, h, _, _ => absurd h (Nat.not_lt_zero _)
  | n + 1, h, hp, hu => by
    simp only [cnt9]
    by_cases e : k = n
    · subst e
      rw [hp, if_pos rfl, cnt9_cut (r := 0) (Nat.zero_le _) (fun j hj => absurd hj (Nat.not_lt_zero j)) (fun j _ hj => by
        cases hq : p j with
        | false => rfl
        | true => have := hu j (by omega) hq; omega)]
    · rw [cnt9_at (n := n) (by omega) hp (fun j hj => hu j (by omega)), if_neg (fun h9 => e (hu n (by omega) h9).symm)]
/-- how many points stand ahead of a number -/
def rkN (E : List En) (os : Nat → Nat) (m x : Nat) : Nat := cnt9 (fun j => decide (enP E (os j) < x)) m
theorem rk_ok {E : List En} {os : Nat → Nat} {m x r : Nat} (hr : r ≤ m) (hl : ∀ j, j < r → enP E (os j) < x) (hh : ∀ j, r ≤ j → j < m → x ≤ enP E (os j)) : rkN E os m x = r :=
  cnt9_cut hr (fun j hj => decide_eq_true (hl j hj)) (fun j h1 h2 => decide_eq_false (by have := hh j h1 h2; omega))
theorem rk_s {E : List En} {os : Nat → Nat} {m v : Nat} (hn : ∀ k, k < E.length → nPt (enP E k) = true) (h1 : ∀ j, j < m → os j < E.length ∧ enF E (os j) = true) (h2 : ∀ i j, i < j → j < m → enP E (os i) < enP E (os j)) (h3 : ∀ k, k < E.length → enF E k = true → ∃ j, j < m ∧ os j = k) : rkN E os m (v + 1) = rkN E os m v + (if cvP 0 E v = true then 1 else 0) := by
  unfold rkN
  rw [cnt9_sum (p := fun j => decide (enP E (os j) < v + 1)) (q := fun j => decide (enP E (os j) < v)) (r := fun j => decide (enP E (os j) = v)) (fun j _ => by simp only [decide_eq_true_eq]; split <;> split <;> split <;> omega)]
  congr 1
  by_cases e : ∃ j, j < m ∧ enP E (os j) = v
  · obtain ⟨j, hj, he⟩ := e
    rw [cnt9_at hj (decide_eq_true he) (fun i hi hp => by
      have hp' := of_decide_eq_true hp
      rcases (by omega : i < j ∨ i = j ∨ j < i) with h9 | h9 | h9
      · have := h2 _ _ h9 hj; omega
      · exact h9
      · have := h2 _ _ h9 hi; omega)]
    have hf := slot_in h1 h2 h3 hj he
    rw [if_pos]
    rw [cvP, fnd, if_pos rfl, hf, ← he, hn _ (h1 j hj).1]
    rfl
  · rw [cnt9_cut (r := 0) (Nat.zero_le _) (fun j hj => absurd hj (Nat.not_lt_zero j)) (fun j _ hj => decide_eq_false (fun h9 => e ⟨j, hj, h9⟩))]
    have hf : ffd (pf2 E v) E.length 0 = none := ffd_non (fun k hk => by
      cases hp : pf2 E v k with
      | false => rfl
      | true =>
        obtain ⟨e1, e2⟩ := pf2_iff.mp hp
        obtain ⟨j, hj, rfl⟩ := h3 k hk e2
        exact absurd ⟨j, hj, e1⟩ e)
    rw [if_neg]
    rw [cvP, fnd, if_pos rfl, hf]
    simp
theorem rk_mono {E : List En} {os : Nat → Nat} {m : Nat} (hn : ∀ k, k < E.length → nPt (enP E k) = true) (h1 : ∀ j, j < m → os j < E.length ∧ enF E (os j) = true) (h2 : ∀ i j, i < j → j < m → enP E (os i) < enP E (os j)) (h3 : ∀ k, k < E.length → enF E k = true → ∃ j, j < m ∧ os j = k) : ∀ (n v a : Nat), cvC 0 E n v a + rkN E os m v = a + rkN E os m (v + n)
  | 0, v, a => rfl
  | n + 1, v, a => by
    have ih := rk_mono hn h1 h2 h3 n (v + 1) (a + (if cvP 0 E v = true then 1 else 0))
    have hs := rk_s (v := v) hn h1 h2 h3
    rw [show v + 1 + n = v + (n + 1) by omega] at ih
    simp only [cvC]
    omega
/-- halves between two ends -/
def ovl (v n : Nat) : Nat := (if v + n < 57344 then v + n else 57344) - (if v < 55296 then 55296 else v)
theorem ovl_s (v n : Nat) : ovl v (n + 1) = ovl (v + 1) n + (if 55296 ≤ v ∧ v ≤ 57343 then 1 else 0) := by
  unfold ovl
  by_cases e : 55296 ≤ v ∧ v ≤ 57343
  · rw [if_pos e, if_neg (show ¬ v < 55296 by omega), if_neg (show ¬ v + 1 < 55296 by omega), show v + (n + 1) = v + 1 + n by omega]
    split <;> omega
  · rw [if_neg e, show v + (n + 1) = v + 1 + n by omega]
    by_cases e2 : v < 55296
    · rw [if_pos e2]
      by_cases e3 : v + 1 < 55296
      · rw [if_pos e3]; exact (Nat.add_zero _).symm
      · rw [if_neg e3, show v + 1 = 55296 by omega]; exact (Nat.add_zero _).symm
    · rw [if_neg e2, if_neg (show ¬ v + 1 < 55296 by omega), if_neg (show ¬ v + 1 + n < 57344 by omega)]
      omega
theorem cv_form {K : Nat} {E : List En} (hK : K ≠ 0) : ∀ (n v a : Nat), v + n ≤ 1114112 → cvC K E n v a + ovl v n = a + n
  | 0, v, a, _ => by unfold ovl; simp only [cvC]; split <;> split <;> omega
  | n + 1, v, a, h => by
    have ih := cv_form hK (E := E) n (v + 1) (a + (if cvP K E v = true then 1 else 0)) (by omega)
    have hc : cvP K E v = nPt v := by rw [cvP, fnd, if_neg hK]; simp
    have hp : nPt v = !decide (55296 ≤ v ∧ v ≤ 57343) := by rw [nPt, decide_eq_true (by omega : v < 1114112), Bool.true_and]
    have ho := ovl_s v n
    simp only [cvC]
    rw [ho]
    clear ho
    generalize ovl (v + 1) n = Y at ih ⊢
    by_cases e : 55296 ≤ v ∧ v ≤ 57343
    · rw [hc, hp, decide_eq_true e] at ih ⊢
      rw [if_pos e]
      generalize hX : cvC K E n (v + 1) (a + (if (!true) = true then 1 else 0)) = X at ih ⊢
      simp only [Bool.not_true, Bool.false_eq_true, if_false] at ih
      omega
    · rw [hc, hp, decide_eq_false e] at ih ⊢
      rw [if_neg e]
      generalize hX : cvC K E n (v + 1) (a + (if (!false) = true then 1 else 0)) = X at ih ⊢
      simp only [Bool.not_false, if_true] at ih
      omega
theorem mx_no {N M : Nat} (h : N < M) (hM : M < 2 ^ 30) : (if nI N - nI M + nI 1 < nI 0 then nI 0 else nI N - nI M + nI 1) = nI 0 := by
  have e : nI N - nI M + nI 1 = nI (N + 1) - nI M := by
    rw [← nI_add, Int32.sub_eq_add_neg, Int32.sub_eq_add_neg, Int32.add_assoc, Int32.add_assoc, Int32.add_comm (-nI M)]
  have t := pk_sub_toInt (a := N + 1) (b := M) (by omega) hM
  rw [e]
  split
  · rfl
  · rename_i hc
    apply Int32.toInt_inj.mp
    have h0 : (nI 0).toInt = 0 := by decide
    rw [Int32.lt_iff_toInt_lt, h0] at hc
    rw [h0]
    omega
set_option maxRecDepth 100000 in
theorem c_pointsWithin {d : Nat} {h : mH} {p m rc f t : Nat} {c : Bool} {E : List En} {od : Nat → Int32} {Q : mP} (hp : h.2 p = oPg 0 c p m rc) (hEA : EnA h (p + 6) 100 E) (ho : h.2 (p + 19) = aI 100 od) (hO : OrOk E od m) (hpb : ∀ k, k < E.length → enP E k < 1114112) (hnp : ∀ k, k < E.length → nPt (enP E k) = true) (hft : f ≤ t) (ht : t ≤ 1114111)  (q : Q (some (.int (nI (cvC 0 E (t + 1 - f) f 0)))) h) : mWP (d + 2) 54 [.ref p, .int (nI f), .int (nI t)] h Q := by
  have hO1 := hO
  have hEA1 := hEA
  obtain ⟨hE0, s9, t9, n9, p9, f9, hE, hEF⟩ := hEA1
  obtain ⟨hm9, os, hos, hso, hal⟩ := hO1
  have hos2 : ∀ j, j < m → os j < E.length ∧ enF E (os j) = true := fun j hj => (hos j hj).2
  refine z_in [some (.ref p), some (.int (nI f)), some (.int (nI t)), none] (by rfl) rfl rfl rfl ?_
  refine z_aload 1 rfl rfl rfl ?_
  refine z_get 4 rfl rfl (by first | exact hp | exact hE.1 | exact hE.2.1 | exact hE.2.2.1 | exact hE.2.2.2.1 | exact hE.2.2.2.2.1 | exact hE.2.2.2.2.2 | exact ho) rfl ?_
  refine z_zne 7 rfl rfl (by omega) (fun h9 => absurd h9 (by omega)) (fun _ => ?_)
  refine z_aload 8 rfl rfl rfl ?_
  refine z_iload 9 rfl rfl rfl ?_
  refine z_push 10 (nI 1) rfl rfl rfl ?_
  refine z_bop 11 _ rfl rfl (by first | with_reducible exact zb_0 _ _ | exact zd_0 _ _) ?_
  refine z_cv1 14 rfl rfl (by first | exact hp | exact hE.1 | exact hE.2.1 | exact hE.2.2.1 | exact hE.2.2.2.1 | exact hE.2.2.2.2.1 | exact hE.2.2.2.2.2 | exact ho) rfl (Nat.le_refl _) (Nat.le_refl _) ?_
  refine c_placeFrom hp hEA ho hpb (by omega) hm9 hos hso (fun r hrm hrl hrh => ?_)
  refine z_aload 15 rfl rfl rfl ?_
  refine z_iload 16 rfl rfl rfl ?_
  refine z_cv1 19 rfl rfl (by first | exact hp | exact hE.1 | exact hE.2.1 | exact hE.2.2.1 | exact hE.2.2.2.1 | exact hE.2.2.2.2.1 | exact hE.2.2.2.2.2 | exact ho) rfl (Nat.le_refl _) (Nat.le_refl _) ?_
  refine c_placeFrom hp hEA ho hpb (by omega) hm9 hos hso (fun u hum hul huh => ?_)
  have h9 := rk_mono hnp hos2 hso hal (t + 1 - f) f 0
  rw [rk_ok hum hul huh, show f + (t + 1 - f) = t + 1 by omega, rk_ok hrm hrl hrh] at h9
  refine z_bop 20 _ rfl rfl (zb_1 (by omega)) ?_
  refine z_ireti rfl (Nat.le_refl _) (Nat.le_refl _) ?_
  rw [show cvC 0 E (t + 1 - f) f 0 = r - u by omega] at q
  exact q
set_option maxRecDepth 100000 in
theorem c_pwK1 {d : Nat} {h : mH} {p K m rc f t : Nat} {c : Bool} {E : List En} {Q : mP} (hp : h.2 p = oPg K c p m rc) (hK : K ≠ 0) (hK4 : K < 4) (hft : f ≤ t) (ht : t ≤ 1114111) (hov : f ≤ 57343 ∧ 55296 ≤ t)  (q : Q (some (.int (nI (cvC K E (t + 1 - f) f 0)))) h) : mWP (d + 2) 54 [.ref p, .int (nI f), .int (nI t)] h Q := by
  obtain ⟨N, hN0, hN1, hN2, hN3⟩ := minN t 57343
  obtain ⟨M, hM0, hM1, hM2, hM3⟩ : ∃ M, max f 55296 = M ∧ f ≤ M ∧ 55296 ≤ M ∧ (M = f ∨ M = 55296) := ⟨max f 55296, rfl, Nat.le_max_left _ _, Nat.le_max_right _ _, by rcases Nat.le_total f 55296 with h9 | h9; (exact Or.inr (Nat.max_eq_right h9)); (exact Or.inl (Nat.max_eq_left h9))⟩
  have h9 := cv_form (E := E) hK (t + 1 - f) f 0 (by omega)
  refine z_in [some (.ref p), some (.int (nI f)), some (.int (nI t)), none] (by rfl) rfl rfl rfl ?_
  refine z_aload 1 rfl rfl rfl ?_
  refine z_get 4 rfl rfl (by first | exact hp | exact hE.1 | exact hE.2.1 | exact hE.2.2.1 | exact hE.2.2.2.1 | exact hE.2.2.2.2.1 | exact hE.2.2.2.2.2 | exact ho) rfl ?_
  refine z_zne 7 rfl rfl (by omega) (fun _ => ?_) (fun h9 => absurd h9 (by omega))
  refine z_iload 22 rfl rfl rfl ?_
  refine z_push 24 (nI 57343) rfl rfl rfl ?_
  refine z_min 27 _ rfl rfl rfl (Nat.le_refl _) (Nat.le_refl _) (show _ = nI N from (zminN (by omega) (by omega)).trans (by rw [hN0])) ?_
  refine z_iload 28 rfl rfl rfl ?_
  refine z_push 30 (nI 55296) rfl rfl rfl ?_
  refine z_max 33 _ rfl rfl rfl (Nat.le_refl _) (Nat.le_refl _) (show _ = nI M from (zmaxN (by omega) (by omega)).trans (by rw [hM0])) ?_
  refine z_bop 34 _ rfl rfl (zb_1 (by omega)) ?_
  refine z_push 35 (nI 1) rfl rfl rfl ?_
  refine z_bop 36 _ rfl rfl (zb_0 _ _) ?_
  refine z_istore 37 rfl rfl rfl rfl ?_
  refine z_iload 38 rfl rfl rfl ?_
  refine z_iload 39 rfl rfl rfl ?_
  refine z_bop 40 _ rfl rfl (zb_1 (by omega)) ?_
  refine z_push 41 (nI 1) rfl rfl rfl ?_
  refine z_bop 42 _ rfl rfl (zb_0 _ _) ?_
  refine z_iload 43 rfl rfl rfl ?_
  refine z_push 44 (nI 0) rfl rfl rfl ?_
  refine z_max 47 _ rfl rfl rfl (Nat.le_refl _) (Nat.le_refl _) (show _ = nI (N - M + 1) from (zmaxN (by omega) (by omega)).trans (by rw [show max (N - M + 1) 0 = N - M + 1 from Nat.max_eq_left (Nat.zero_le _)])) ?_
  refine z_bop 48 _ rfl rfl (zb_1 (by omega)) ?_
  refine z_ireti rfl (Nat.le_refl _) (Nat.le_refl _) ?_
  have e9 : ovl f (t + 1 - f) = N - M + 1 := by unfold ovl; split <;> split <;> omega
  rw [show cvC K E (t + 1 - f) f 0 = t - f + 1 - (N - M + 1) by omega] at q
  exact q
set_option maxRecDepth 100000 in
theorem c_pwK0 {d : Nat} {h : mH} {p K m rc f t : Nat} {c : Bool} {E : List En} {Q : mP} (hp : h.2 p = oPg K c p m rc) (hK : K ≠ 0) (hK4 : K < 4) (hft : f ≤ t) (ht : t ≤ 1114111) (hov : 57343 < f ∨ t < 55296)  (q : Q (some (.int (nI (cvC K E (t + 1 - f) f 0)))) h) : mWP (d + 2) 54 [.ref p, .int (nI f), .int (nI t)] h Q := by
  obtain ⟨N, hN0, hN1, hN2, hN3⟩ := minN t 57343
  obtain ⟨M, hM0, hM1, hM2, hM3⟩ : ∃ M, max f 55296 = M ∧ f ≤ M ∧ 55296 ≤ M ∧ (M = f ∨ M = 55296) := ⟨max f 55296, rfl, Nat.le_max_left _ _, Nat.le_max_right _ _, by rcases Nat.le_total f 55296 with h9 | h9; (exact Or.inr (Nat.max_eq_right h9)); (exact Or.inl (Nat.max_eq_left h9))⟩
  have h9 := cv_form (E := E) hK (t + 1 - f) f 0 (by omega)
  refine z_in [some (.ref p), some (.int (nI f)), some (.int (nI t)), none] (by rfl) rfl rfl rfl ?_
  refine z_aload 1 rfl rfl rfl ?_
  refine z_get 4 rfl rfl (by first | exact hp | exact hE.1 | exact hE.2.1 | exact hE.2.2.1 | exact hE.2.2.2.1 | exact hE.2.2.2.2.1 | exact hE.2.2.2.2.2 | exact ho) rfl ?_
  refine z_zne 7 rfl rfl (by omega) (fun _ => ?_) (fun h9 => absurd h9 (by omega))
  refine z_iload 22 rfl rfl rfl ?_
  refine z_push 24 (nI 57343) rfl rfl rfl ?_
  refine z_min 27 _ rfl rfl rfl (Nat.le_refl _) (Nat.le_refl _) (show _ = nI N from (zminN (by omega) (by omega)).trans (by rw [hN0])) ?_
  refine z_iload 28 rfl rfl rfl ?_
  refine z_push 30 (nI 55296) rfl rfl rfl ?_
  refine z_max 33 _ rfl rfl rfl (Nat.le_refl _) (Nat.le_refl _) (show _ = nI M from (zmaxN (by omega) (by omega)).trans (by rw [hM0])) ?_
  refine z_bop 34 _ rfl rfl rfl ?_
  refine z_push 35 (nI 1) rfl rfl rfl ?_
  refine z_bop 36 _ rfl rfl rfl ?_
  refine z_istore 37 rfl rfl rfl rfl ?_
  refine z_iload 38 rfl rfl rfl ?_
  refine z_iload 39 rfl rfl rfl ?_
  refine z_bop 40 _ rfl rfl (zb_1 (by omega)) ?_
  refine z_push 41 (nI 1) rfl rfl rfl ?_
  refine z_bop 42 _ rfl rfl (zb_0 _ _) ?_
  refine z_iload 43 rfl rfl rfl ?_
  refine z_push 44 (nI 0) rfl rfl rfl ?_
  refine z_max 47 _ rfl rfl rfl (Nat.le_refl _) (Nat.le_refl _) (show _ = nI 0 from mx_no (N := N) (M := M) (by omega) (by omega)) ?_
  refine z_bop 48 _ rfl rfl (zb_1 (by omega)) ?_
  refine z_ireti rfl (Nat.le_refl _) (Nat.le_refl _) ?_
  have e9 : ovl f (t + 1 - f) = 0 := by unfold ovl; split <;> split <;> omega
  rw [show cvC K E (t + 1 - f) f 0 = t - f + 1 - 0 by omega] at q
  exact q
theorem c_pointsWithinK {d : Nat} {h : mH} {p K m rc f t : Nat} {c : Bool} {E : List En} {Q : mP} (hp : h.2 p = oPg K c p m rc) (hK : K ≠ 0) (hK4 : K < 4) (hft : f ≤ t) (ht : t ≤ 1114111) (q : Q (some (.int (nI (cvC K E (t + 1 - f) f 0)))) h) : mWP (d + 2) 54 [.ref p, .int (nI f), .int (nI t)] h Q := by
  rcases (by omega : (f ≤ 57343 ∧ 55296 ≤ t) ∨ (57343 < f ∨ t < 55296)) with h9 | h9
  · exact c_pwK1 hp hK hK4 hft ht h9 q
  · exact c_pwK0 hp hK hK4 hft ht h9 q
