/-! the class: a page, what is read -/
theorem ffd_one {P : Nat → Bool} {n k : Nat} (hk : k < n) (hp : P k = true) (hu : ∀ j, j < n → P j = true → j = k) : ffd P n 0 = some k := by
  obtain ⟨j, hj⟩ := ffd_ex (P := P) (m := n) (i := 0) (k := k) (by omega) (by omega) hp
  have h1 := ffd_lt hj
  rw [hj, hu j (by omega) (ffd_p hj)]
theorem ffd_non {P : Nat → Bool} {n : Nat} (hu : ∀ j, j < n → P j = false) : ffd P n 0 = none := by
  rcases h : ffd P n 0 with _ | k
  · rfl
  · have h1 := ffd_lt h
    have h2 := ffd_p h
    rw [hu k (by omega)] at h2
    cases h2
theorem pf2_iff {E : List En} {pt k : Nat} : pf2 E pt k = true ↔ enP E k = pt ∧ enF E k = true := by simp [pf2]
theorem slot_in {E : List En} {m r pt : Nat} {os : Nat → Nat} (h1 : ∀ j, j < m → os j < E.length ∧ enF E (os j) = true) (h2 : ∀ i j, i < j → j < m → enP E (os i) < enP E (os j)) (h3 : ∀ k, k < E.length → enF E k = true → ∃ j, j < m ∧ os j = k) (hr : r < m) (he : enP E (os r) = pt) : ffd (pf2 E pt) E.length 0 = some (os r) := by
  refine ffd_one (h1 r hr).1 (pf2_iff.mpr ⟨he, (h1 r hr).2⟩) (fun j hj hp => ?_)
  obtain ⟨e1, e2⟩ := pf2_iff.mp hp
  obtain ⟨j', hj', rfl⟩ := h3 j hj e2
  rcases (by omega : j' < r ∨ j' = r ∨ r < j') with h9 | h9 | h9
  · have := h2 _ _ h9 hr; omega
  · rw [h9]
  · have := h2 _ _ h9 hj'; omega
theorem slot_no {E : List En} {m r pt : Nat} {os : Nat → Nat} (h2 : ∀ i j, i < j → j < m → enP E (os i) < enP E (os j)) (h3 : ∀ k, k < E.length → enF E k = true → ∃ j, j < m ∧ os j = k) (hl : ∀ j, j < r → enP E (os j) < pt) (hh : ∀ j, r ≤ j → j < m → pt ≤ enP E (os j)) (he : r < m → enP E (os r) ≠ pt) : ffd (pf2 E pt) E.length 0 = none := by
  refine ffd_non (fun k hk => ?_)
  cases hp : pf2 E pt k with
  | false => rfl
  | true =>
    obtain ⟨e1, e2⟩ := pf2_iff.mp hp
    obtain ⟨j', hj', rfl⟩ := h3 k hk e2
    exfalso
    rcases (by omega : j' < r ∨ j' = r ∨ r < j') with h9 | h9 | h9
    · have := hl _ h9; omega
    · subst h9; exact he hj' e1
    · have := h2 _ _ h9 hj'
      have := hh r (Nat.le_refl _) (by omega)
      omega
set_option maxRecDepth 100000 in
theorem c_Pg_slotOf {d : Nat} {h : mH} {p m rc x : Nat} {c : Bool} {E : List En} {od : Nat → Int32} {Q : mP} (hp : h.2 p = oPg 0 c p m rc) (hEA : EnA h (p + 6) 100 E) (ho : h.2 (p + 19) = aI 100 od) (hO : OrOk E od m) (hpb : ∀ k, k < E.length → enP E k < 1114112) (hx : x < 1114112)  (q : Q (some (.int (oI (ffd (pf2 E x) E.length 0)))) h) : mWP (d + 2) 50 [.ref p, .int (nI x)] h Q := by
  have hO1 := hO
  have hEA1 := hEA
  obtain ⟨hE0, s9, t9, n9, p9, f9, hE, hEF⟩ := hEA1
  obtain ⟨hm9, os, hos, hso, hal⟩ := hO1
  have hos2 : ∀ j, j < m → os j < E.length ∧ enF E (os j) = true := fun j hj => (hos j hj).2
  refine z_in [some (.ref p), some (.int (nI x)), none, none] (by rfl) rfl rfl rfl ?_
  refine z_aload 1 rfl rfl rfl ?_
  refine z_get 4 rfl rfl (by first | exact hp | exact hE.1 | exact hE.2.1 | exact hE.2.2.1 | exact hE.2.2.2.1 | exact hE.2.2.2.2.1 | exact hE.2.2.2.2.2 | exact ho) rfl ?_
  refine z_zeq 7 rfl rfl (by omega) (fun _ => ?_) (fun h9 => absurd h9 (by omega))
  refine z_aload 10 rfl rfl rfl ?_
  refine z_iload 11 rfl rfl rfl ?_
  refine z_cv1 14 rfl rfl (by first | exact hp | exact hE.1 | exact hE.2.1 | exact hE.2.2.1 | exact hE.2.2.2.1 | exact hE.2.2.2.2.1 | exact hE.2.2.2.2.2 | exact ho) rfl (Nat.le_refl _) (Nat.le_refl _) ?_
  refine c_placeFrom hp hEA ho hpb (by omega) hm9 hos hso (fun r hrm hlo hhi => ?_)
  refine z_istore 15 rfl rfl rfl rfl ?_
  refine z_iload 16 rfl rfl rfl ?_
  refine z_aload 17 rfl rfl rfl ?_
  refine z_get 20 rfl rfl (by first | exact hp | exact hE.1 | exact hE.2.1 | exact hE.2.2.1 | exact hE.2.2.2.1 | exact hE.2.2.2.2.1 | exact hE.2.2.2.2.2 | exact ho) rfl ?_
  refine z_nge 23 rfl rfl (by omega) (by omega) (fun hc20 => ?_) (fun hc20 => ?_)
  · refine z_push 46 (nI 0) rfl rfl rfl ?_
    refine z_istore 47 rfl rfl rfl rfl ?_
    refine z_iload 48 rfl rfl rfl ?_
    refine z_zeq 51 rfl rfl (by omega) (fun _ => ?_) (fun h9 => absurd h9 (by omega))
    refine z_push 61 (-1) rfl rfl rfl ?_
    refine z_ireti rfl (Nat.le_refl _) (Nat.le_refl _) ?_
    rw [slot_no hso hal hlo hhi (fun h9 => absurd h9 (by omega))] at q
    exact q
  · refine z_aload 24 rfl rfl rfl ?_
    refine z_get 27 rfl rfl (by first | exact hp | exact hE.1 | exact hE.2.1 | exact hE.2.2.1 | exact hE.2.2.2.1 | exact hE.2.2.2.2.1 | exact hE.2.2.2.2.2 | exact ho) rfl ?_
    refine z_get 30 rfl rfl (by first | exact hp | exact hE.1 | exact hE.2.1 | exact hE.2.2.1 | exact hE.2.2.2.1 | exact hE.2.2.2.2.1 | exact hE.2.2.2.2.2 | exact ho) rfl ?_
    refine z_aload 31 rfl rfl rfl ?_
    refine z_get 34 rfl rfl (by first | exact hp | exact hE.1 | exact hE.2.1 | exact hE.2.2.1 | exact hE.2.2.2.1 | exact hE.2.2.2.2.1 | exact hE.2.2.2.2.2 | exact ho) rfl ?_
    refine z_iload 35 rfl rfl rfl ?_
    refine z_ald 36 rfl rfl (by first | exact hp | exact hE.1 | exact hE.2.1 | exact hE.2.2.1 | exact hE.2.2.2.1 | exact hE.2.2.2.2.1 | exact hE.2.2.2.2.2 | exact ho) rfl (by omega) (by omega) ?_
    obtain ⟨q1, q2, q3⟩ := hos r (by omega)
    rw [q1]
    refine z_ald 37 rfl rfl (by first | exact hp | exact hE.1 | exact hE.2.1 | exact hE.2.2.1 | exact hE.2.2.2.1 | exact hE.2.2.2.2.1 | exact hE.2.2.2.2.2 | exact ho) rfl (by omega) (by omega) ?_
    have hef := (hEF (os r) q2).2.2.2.1
    have hpl := hpb _ q2
    simp only [hef]
    refine z_iload 38 rfl rfl rfl ?_
    refine z_nne 41 rfl rfl (by omega) (by omega) (fun hc38 => ?_) (fun hc38 => ?_)
    · refine z_push 46 (nI 0) rfl rfl rfl ?_
      refine z_istore 47 rfl rfl rfl rfl ?_
      refine z_iload 48 rfl rfl rfl ?_
      refine z_zeq 51 rfl rfl (by omega) (fun _ => ?_) (fun h9 => absurd h9 (by omega))
      refine z_push 61 (-1) rfl rfl rfl ?_
      refine z_ireti rfl (Nat.le_refl _) (Nat.le_refl _) ?_
      rw [slot_no hso hal hlo hhi (fun _ => hc38)] at q
      exact q
    · refine z_push 42 (nI 1) rfl rfl rfl ?_
      refine z_goto rfl ?_
      refine z_istore 47 rfl rfl rfl rfl ?_
      refine z_iload 48 rfl rfl rfl ?_
      refine z_zeq 51 rfl rfl (by omega) (fun h9 => absurd h9 (by omega)) (fun _ => ?_)
      refine z_aload 52 rfl rfl rfl ?_
      refine z_get 55 rfl rfl (by first | exact hp | exact hE.1 | exact hE.2.1 | exact hE.2.2.1 | exact hE.2.2.2.1 | exact hE.2.2.2.2.1 | exact hE.2.2.2.2.2 | exact ho) rfl ?_
      refine z_iload 56 rfl rfl rfl ?_
      refine z_ald 57 rfl rfl (by first | exact hp | exact hE.1 | exact hE.2.1 | exact hE.2.2.1 | exact hE.2.2.2.1 | exact hE.2.2.2.2.1 | exact hE.2.2.2.2.2 | exact ho) rfl (by omega) (by omega) ?_
      obtain ⟨q1, q2, q3⟩ := hos r (by omega)
      rw [q1]
      refine z_goto rfl ?_
      refine z_ireti rfl (Nat.le_refl _) (Nat.le_refl _) ?_
      rw [slot_in hos2 hso hal (by omega) hc38] at q
      exact q
set_option maxRecDepth 10000 in
theorem c_Pg_slotOfK {d : Nat} {h : mH} {p K m rc : Nat} {c : Bool} {x : Int32} {Q : mP} (hp : h.2 p = oPg K c p m rc) (hK : K ≠ 0) (hK4 : K < 4)  (q : Q (some (.int (nI 0))) h) : mWP (d + 1) 50 [.ref p, .int x] h Q := by
  refine z_in [some (.ref p), some (.int x), none, none] (by rfl) rfl rfl rfl ?_
  refine z_aload 1 rfl rfl rfl ?_
  refine z_get 4 rfl rfl hp rfl ?_
  refine z_zeq 7 rfl rfl (by omega) (fun h9 => absurd h9 (by omega)) (fun _ => ?_)
  refine z_push 8 (nI 0) rfl rfl rfl ?_
  refine z_ireti rfl (Nat.le_refl _) (Nat.le_refl _) ?_
  exact q
set_option maxRecDepth 10000 in
theorem c_Pg_textAt {d : Nat} {h : mH} {p K m rc k r : Nat} {c : Bool} {E : List En} {Q : mP} (hp : h.2 p = oPg K c p m rc) (hEA : EnA h (p + 6) r E) (hr : r < 2 ^ 31) (hk : k < E.length) (ht : enT E k < 2 ^ 31) (hn : enN E k < 2 ^ 31)  (q : Q (some (.long (LT (enN E k) (enT E k)))) h) : mWP (d + 1) 51 [.ref p, .int (nI k)] h Q := by
  obtain ⟨hE0, s9, t9, n9, p9, f9, hE, hEF⟩ := hEA
  obtain ⟨e1, e2, e3, e4, e5⟩ := hEF k hk
  refine z_in [some (.ref p), some (.int (nI k))] (by rfl) rfl rfl rfl ?_
  refine z_iload 1 rfl rfl rfl ?_
  refine z_zlt 4 rfl rfl (by omega) (fun h9 => absurd h9 (by omega)) (fun _ => ?_)
  refine z_iload 5 rfl rfl rfl ?_
  refine z_aload 6 rfl rfl rfl ?_
  refine z_get 9 rfl rfl (by first | exact hp | exact hE.1 | exact hE.2.1 | exact hE.2.2.1 | exact hE.2.2.2.1 | exact hE.2.2.2.2.1 | exact hE.2.2.2.2.2 | exact ho) rfl ?_
  refine z_get 12 rfl rfl (by first | exact hp | exact hE.1 | exact hE.2.1 | exact hE.2.2.1 | exact hE.2.2.2.1 | exact hE.2.2.2.2.1 | exact hE.2.2.2.2.2 | exact ho) rfl ?_
  refine z_nlt 15 rfl rfl (by omega) (by omega) (fun _ => ?_) (fun h9 => absurd h9 (by omega))
  refine z_aload 18 rfl rfl rfl ?_
  refine z_get 21 rfl rfl (by first | exact hp | exact hE.1 | exact hE.2.1 | exact hE.2.2.1 | exact hE.2.2.2.1 | exact hE.2.2.2.2.1 | exact hE.2.2.2.2.2 | exact ho) rfl ?_
  refine z_get 24 rfl rfl (by first | exact hp | exact hE.1 | exact hE.2.1 | exact hE.2.2.1 | exact hE.2.2.2.1 | exact hE.2.2.2.2.1 | exact hE.2.2.2.2.2 | exact ho) rfl ?_
  refine z_iload 25 rfl rfl rfl ?_
  refine z_ald 26 rfl rfl (by first | exact hp | exact hE.1 | exact hE.2.1 | exact hE.2.2.1 | exact hE.2.2.2.1 | exact hE.2.2.2.2.1 | exact hE.2.2.2.2.2 | exact ho) rfl (by omega) (by omega) ?_
  simp only [e3]
  refine z_i2l 27 rfl rfl ?_
  refine z_push 29 (nI 32) rfl rfl rfl ?_
  refine z_lsh 30 _ rfl rfl (lshi (by decide) (by omega)) ?_
  refine z_aload 31 rfl rfl rfl ?_
  refine z_get 34 rfl rfl (by first | exact hp | exact hE.1 | exact hE.2.1 | exact hE.2.2.1 | exact hE.2.2.2.1 | exact hE.2.2.2.2.1 | exact hE.2.2.2.2.2 | exact ho) rfl ?_
  refine z_get 37 rfl rfl (by first | exact hp | exact hE.1 | exact hE.2.1 | exact hE.2.2.1 | exact hE.2.2.2.1 | exact hE.2.2.2.2.1 | exact hE.2.2.2.2.2 | exact ho) rfl ?_
  refine z_iload 38 rfl rfl rfl ?_
  refine z_ald 39 rfl rfl (by first | exact hp | exact hE.1 | exact hE.2.1 | exact hE.2.2.1 | exact hE.2.2.2.1 | exact hE.2.2.2.2.1 | exact hE.2.2.2.2.2 | exact ho) rfl (by omega) (by omega) ?_
  simp only [e2]
  refine z_i2l 40 rfl rfl ?_
  refine z_lop 41 _ rfl rfl (lori 32 (by omega) (by omega) (by omega)) ?_
  refine z_lret rfl (Nat.le_refl _) (Nat.le_refl _) ?_
  exact q
set_option maxRecDepth 10000 in
theorem c_Pg_stateAt {d : Nat} {h : mH} {p K m rc k r : Nat} {c : Bool} {E : List En} {Q : mP} (hp : h.2 p = oPg K c p m rc) (hEA : EnA h (p + 6) r E) (hr : r < 2 ^ 31) (hk : k < E.length)  (q : Q (some (.int (nI (enS E k)))) h) : mWP (d + 1) 52 [.ref p, .int (nI k)] h Q := by
  obtain ⟨hE0, s9, t9, n9, p9, f9, hE, hEF⟩ := hEA
  obtain ⟨e1, e2, e3, e4, e5⟩ := hEF k hk
  refine z_in [some (.ref p), some (.int (nI k))] (by rfl) rfl rfl rfl ?_
  refine z_iload 1 rfl rfl rfl ?_
  refine z_zlt 4 rfl rfl (by omega) (fun h9 => absurd h9 (by omega)) (fun _ => ?_)
  refine z_iload 5 rfl rfl rfl ?_
  refine z_aload 6 rfl rfl rfl ?_
  refine z_get 9 rfl rfl (by first | exact hp | exact hE.1 | exact hE.2.1 | exact hE.2.2.1 | exact hE.2.2.2.1 | exact hE.2.2.2.2.1 | exact hE.2.2.2.2.2 | exact ho) rfl ?_
  refine z_get 12 rfl rfl (by first | exact hp | exact hE.1 | exact hE.2.1 | exact hE.2.2.1 | exact hE.2.2.2.1 | exact hE.2.2.2.2.1 | exact hE.2.2.2.2.2 | exact ho) rfl ?_
  refine z_nge 15 rfl rfl (by omega) (by omega) (fun h9 => absurd h9 (by omega)) (fun _ => ?_)
  refine z_aload 16 rfl rfl rfl ?_
  refine z_get 19 rfl rfl (by first | exact hp | exact hE.1 | exact hE.2.1 | exact hE.2.2.1 | exact hE.2.2.2.1 | exact hE.2.2.2.2.1 | exact hE.2.2.2.2.2 | exact ho) rfl ?_
  refine z_get 22 rfl rfl (by first | exact hp | exact hE.1 | exact hE.2.1 | exact hE.2.2.1 | exact hE.2.2.2.1 | exact hE.2.2.2.2.1 | exact hE.2.2.2.2.2 | exact ho) rfl ?_
  refine z_iload 23 rfl rfl rfl ?_
  refine z_ald 24 rfl rfl (by first | exact hp | exact hE.1 | exact hE.2.1 | exact hE.2.2.1 | exact hE.2.2.2.1 | exact hE.2.2.2.2.1 | exact hE.2.2.2.2.2 | exact ho) rfl (by omega) (by omega) ?_
  simp only [e1]
  refine z_goto rfl ?_
  refine z_ireti rfl (Nat.le_refl _) (Nat.le_refl _) ?_
  exact q
set_option maxRecDepth 10000 in
theorem c_Pg_stateAt0 {d : Nat} {h : mH} {p K m rc : Nat} {c : Bool} {Q : mP} (hp : h.2 p = oPg K c p m rc) (hEA : EnA h (p + 6) 0 [])  (q : Q (some (.int (nI 0))) h) : mWP (d + 1) 52 [.ref p, .int (nI 0)] h Q := by
  obtain ⟨hE0, s9, t9, n9, p9, f9, hE, hEF⟩ := hEA
  refine z_in [some (.ref p), some (.int (nI 0))] (by rfl) rfl rfl rfl ?_
  refine z_iload 1 rfl rfl rfl ?_
  refine z_zlt 4 rfl rfl (by omega) (fun h9 => absurd h9 (by omega)) (fun _ => ?_)
  refine z_iload 5 rfl rfl rfl ?_
  refine z_aload 6 rfl rfl rfl ?_
  refine z_get 9 rfl rfl (by first | exact hp | exact hE.1 | exact hE.2.1 | exact hE.2.2.1 | exact hE.2.2.2.1 | exact hE.2.2.2.2.1 | exact hE.2.2.2.2.2 | exact ho) rfl ?_
  refine z_get 12 rfl rfl (by first | exact hp | exact hE.1 | exact hE.2.1 | exact hE.2.2.1 | exact hE.2.2.2.1 | exact hE.2.2.2.2.1 | exact hE.2.2.2.2.2 | exact ho) rfl ?_
  refine z_nge 15 rfl rfl (by omega) (by omega) (fun _ => ?_) (fun h9 => absurd h9 (by omega))
  refine z_push 28 (nI 0) rfl rfl rfl ?_
  refine z_ireti rfl (Nat.le_refl _) (Nat.le_refl _) ?_
  exact q
theorem cvP_no {E : List En} {m r x v : Nat} {os : Nat → Nat} (h2 : ∀ i j, i < j → j < m → enP E (os i) < enP E (os j)) (h3 : ∀ k, k < E.length → enF E k = true → ∃ j, j < m ∧ os j = k) (hl : ∀ j, j < r → enP E (os j) < x) (hxv : x ≤ v) (hv : r < m → v < enP E (os r)) : cvP 0 E v = false := by
  have hn : ffd (pf2 E v) E.length 0 = none := by
    refine ffd_non (fun k hk => ?_)
    cases hp : pf2 E v k with
    | false => rfl
    | true =>
      obtain ⟨e1, e2⟩ := pf2_iff.mp hp
      obtain ⟨j', hj', rfl⟩ := h3 k hk e2
      exfalso
      rcases (by omega : j' < r ∨ j' = r ∨ r < j') with h9 | h9 | h9
      · have := hl _ h9; omega
      · subst h9; have := hv hj'; omega
      · have := h2 _ _ h9 hj'
        have := hv (by omega)
        omega
  rw [cvP, fnd, if_pos rfl, hn]
  exact Bool.and_false _
theorem cvP_half {K v : Nat} {E : List En} (h : 55296 ≤ v ∧ v ≤ 57343) : cvP K E v = false := by
  rw [cvP, nPt, decide_eq_true h]; simp
set_option maxRecDepth 100000 in
theorem c_pointFrom {d : Nat} {h : mH} {p m rc x : Nat} {c : Bool} {E : List En} {od : Nat → Int32} {Q : mP} (hp : h.2 p = oPg 0 c p m rc) (hEA : EnA h (p + 6) 100 E) (ho : h.2 (p + 19) = aI 100 od) (hO : OrOk E od m) (hpb : ∀ k, k < E.length → enP E k < 1114112) (hx : x ≤ 1114112)  (q : ∀ y, x ≤ y → y ≤ 1114112 → (∀ v, x ≤ v → v < y → cvP 0 E v = false) → Q (some (.int (nI y))) h) : mWP (d + 2) 53 [.ref p, .int (nI x)] h Q := by
  have hO1 := hO
  have hEA1 := hEA
  obtain ⟨hE0, s9, t9, n9, p9, f9, hE, hEF⟩ := hEA1
  obtain ⟨hm9, os, hos, hso, hal⟩ := hO1
  have hos2 : ∀ j, j < m → os j < E.length ∧ enF E (os j) = true := fun j hj => (hos j hj).2
  refine z_in [some (.ref p), some (.int (nI x)), none] (by rfl) rfl rfl rfl ?_
  refine z_aload 1 rfl rfl rfl ?_
  refine z_get 4 rfl rfl (by first | exact hp | exact hE.1 | exact hE.2.1 | exact hE.2.2.1 | exact hE.2.2.2.1 | exact hE.2.2.2.2.1 | exact hE.2.2.2.2.2 | exact ho) rfl ?_
  refine z_zne 7 rfl rfl (by omega) (fun h9 => absurd h9 (by omega)) (fun _ => ?_)
  refine z_aload 8 rfl rfl rfl ?_
  refine z_iload 9 rfl rfl rfl ?_
  refine z_cv1 12 rfl rfl (by first | exact hp | exact hE.1 | exact hE.2.1 | exact hE.2.2.1 | exact hE.2.2.2.1 | exact hE.2.2.2.2.1 | exact hE.2.2.2.2.2 | exact ho) rfl (Nat.le_refl _) (Nat.le_refl _) ?_
  refine c_placeFrom hp hEA ho hpb (by omega) hm9 hos hso (fun r hrm hlo hhi => ?_)
  refine z_istore 13 rfl rfl rfl rfl ?_
  refine z_iload 14 rfl rfl rfl ?_
  refine z_aload 15 rfl rfl rfl ?_
  refine z_get 18 rfl rfl (by first | exact hp | exact hE.1 | exact hE.2.1 | exact hE.2.2.1 | exact hE.2.2.2.1 | exact hE.2.2.2.2.1 | exact hE.2.2.2.2.2 | exact ho) rfl ?_
  refine z_nge 21 rfl rfl (by omega) (by omega) (fun hc18 => ?_) (fun hc18 => ?_)
  · refine z_push 40 (nI 1114112) rfl rfl rfl ?_
    refine z_ireti rfl (Nat.le_refl _) (Nat.le_refl _) ?_
    exact q _ hx (Nat.le_refl _) (fun v h1 h2 => cvP_no hso hal hlo h1 (fun h9 => absurd h9 (by omega)))
  · refine z_aload 22 rfl rfl rfl ?_
    refine z_get 25 rfl rfl (by first | exact hp | exact hE.1 | exact hE.2.1 | exact hE.2.2.1 | exact hE.2.2.2.1 | exact hE.2.2.2.2.1 | exact hE.2.2.2.2.2 | exact ho) rfl ?_
    refine z_get 28 rfl rfl (by first | exact hp | exact hE.1 | exact hE.2.1 | exact hE.2.2.1 | exact hE.2.2.2.1 | exact hE.2.2.2.2.1 | exact hE.2.2.2.2.2 | exact ho) rfl ?_
    refine z_aload 29 rfl rfl rfl ?_
    refine z_get 32 rfl rfl (by first | exact hp | exact hE.1 | exact hE.2.1 | exact hE.2.2.1 | exact hE.2.2.2.1 | exact hE.2.2.2.2.1 | exact hE.2.2.2.2.2 | exact ho) rfl ?_
    refine z_iload 33 rfl rfl rfl ?_
    refine z_ald 34 rfl rfl (by first | exact hp | exact hE.1 | exact hE.2.1 | exact hE.2.2.1 | exact hE.2.2.2.1 | exact hE.2.2.2.2.1 | exact hE.2.2.2.2.2 | exact ho) rfl (by omega) (by omega) ?_
    obtain ⟨q1, q2, q3⟩ := hos r (by omega)
    rw [q1]
    refine z_ald 35 rfl rfl (by first | exact hp | exact hE.1 | exact hE.2.1 | exact hE.2.2.1 | exact hE.2.2.2.1 | exact hE.2.2.2.2.1 | exact hE.2.2.2.2.2 | exact ho) rfl (by omega) (by omega) ?_
    have hef := (hEF (os r) q2).2.2.2.1
    have hpl := hpb _ q2
    simp only [hef]
    refine z_goto rfl ?_
    refine z_ireti rfl (Nat.le_refl _) (Nat.le_refl _) ?_
    exact q _ (hhi r (Nat.le_refl _) (by omega)) (by omega) (fun v h1 h2 => cvP_no hso hal hlo h1 (fun _ => h2))
set_option maxRecDepth 100000 in
theorem c_pointFromK {d : Nat} {h : mH} {p K m rc x : Nat} {c : Bool} {E : List En} {Q : mP} (hp : h.2 p = oPg K c p m rc) (hK : K ≠ 0) (hK4 : K < 4) (hx : x ≤ 1114112)  (q : ∀ y, x ≤ y → y ≤ 1114112 → (∀ v, x ≤ v → v < y → cvP K E v = false) → Q (some (.int (nI y))) h) : mWP (d + 2) 53 [.ref p, .int (nI x)] h Q := by
  refine z_in [some (.ref p), some (.int (nI x)), none] (by rfl) rfl rfl rfl ?_
  refine z_aload 1 rfl rfl rfl ?_
  refine z_get 4 rfl rfl (by first | exact hp | exact hE.1 | exact hE.2.1 | exact hE.2.2.1 | exact hE.2.2.2.1 | exact hE.2.2.2.2.1 | exact hE.2.2.2.2.2 | exact ho) rfl ?_
  refine z_zne 7 rfl rfl (by omega) (fun _ => ?_) (fun h9 => absurd h9 (by omega))
  refine z_iload 42 rfl rfl rfl ?_
  refine z_cs1 45 rfl rfl rfl (Nat.le_refl _) (Nat.le_refl _) ?_
  refine c_isHalf ?_
  rw [jHalf_n (by omega)]
  first | refine z_deq 48 rfl rfl (fun hc45 => ?_) (fun hc45 => ?_)
  · refine z_iload 54 rfl rfl rfl ?_
    refine z_push 56 (nI 1114112) rfl rfl rfl ?_
    refine z_min 59 _ rfl rfl rfl (Nat.le_refl _) (Nat.le_refl _) (show _ = nI x from (zminN (by omega) (by omega)).trans (by rw [show min x 1114112 = x from Nat.min_eq_left hx])) ?_
    refine z_ireti rfl (Nat.le_refl _) (Nat.le_refl _) ?_
    exact q x (Nat.le_refl _) hx (fun v h1 h2 => absurd h2 (by omega))
  · refine z_push 50 (nI 57344) rfl rfl rfl ?_
    refine z_goto rfl ?_
    refine z_ireti rfl (Nat.le_refl _) (Nat.le_refl _) ?_
    exact q 57344 (by omega) (by omega) (fun v h1 h2 => cvP_half (by omega))
theorem tb_and : ∀ r, r < 16 → ∀ s, s < 4 → mBop 3 (mBop 7 (nI r) (nI s)) (nI 1) = (if r.testBit s = true then nI 1 else nI 0) := by decide +kernel
set_option maxRecDepth 10000 in
theorem c_isReached {d : Nat} {h : mH} {p K m rc s : Nat} {c : Bool} {Q : mP} (hp : h.2 p = oPg K c p m rc) (hr : rc < 16) (hs : s < 4)  (q : Q (some (.int (bI (rc.testBit s)))) h) : mWP (d + 1) 48 [.ref p, .int (nI s)] h Q := by
  refine z_in [some (.ref p), some (.int (nI s))] (by rfl) rfl rfl rfl ?_
  refine z_aload 1 rfl rfl rfl ?_
  refine z_get 4 rfl rfl hp rfl ?_
  refine z_iload 5 rfl rfl rfl ?_
  refine z_bop 6 _ rfl rfl rfl ?_
  refine z_push 7 (nI 1) rfl rfl rfl ?_
  refine z_bop 8 _ rfl rfl (tb_and _ hr _ hs) ?_
  refine z_push 9 (nI 1) rfl rfl rfl ?_
  refine z_cne 12 rfl rfl (fun hc9 => ?_) (fun hc9 => ?_)
  · refine z_push 17 (nI 0) rfl rfl rfl ?_
    refine z_iretb rfl (Nat.le_refl _) (Nat.le_refl _) (by first | decide | exact bI_01 _) ?_
    cases hb : rc.testBit s with
    | false => rw [hb] at q; exact q
    | true => exact absurd (by rw [hb]; rfl) hc9
  · refine z_push 13 (nI 1) rfl rfl rfl ?_
    refine z_goto rfl ?_
    refine z_iretb rfl (Nat.le_refl _) (Nat.le_refl _) (by first | decide | exact bI_01 _) ?_
    cases hb : rc.testBit s with
    | false => rw [hb] at hc9; exact absurd hc9 (by decide)
    | true => rw [hb] at q; exact q
