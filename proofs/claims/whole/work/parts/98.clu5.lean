/-! the class: Page.isGood -/
def NoAt (h : mH) (y a b c : Nat) : Prop := ∃ f : Nat → Int32, h.2 y = aI 3 f ∧ f 0 = nI a ∧ f 1 = nI b ∧ f 2 = nI c
theorem c_note {d : Nat} {h : mH} {y a b c : Nat} {f : Nat → Int32} {Q : mP} (hy : h.2 y = aI 3 f) (q : ∀ h', NoAt h' y a b c → Fr y (y + 1) h h' → Q (some (.int (nI 1))) h') : mWP (d + 1) 35 [.ref y, .int (nI a), .int (nI b), .int (nI c)] h Q := by
  refine z_in [some (.ref y), some (.int (nI a)), some (.int (nI b)), some (.int (nI c))] (by rfl) rfl rfl rfl ?_
  refine z_aload 1 rfl rfl rfl ?_
  refine z_alen 2 rfl rfl (by first | exact hy | exact mg_eq _ _ _ | fail "lk") (by decide) ?_
  refine z_push 3 (nI 3) rfl rfl rfl ?_
  refine z_nlt 6 rfl rfl (by omega) (by omega) (fun h9 => absurd h9 (by omega)) (fun _ => ?_)
  refine z_aload 7 rfl rfl rfl ?_
  refine z_push 8 (nI 0) rfl rfl rfl ?_
  refine z_iload 9 rfl rfl rfl ?_
  refine z_ast 10 rfl rfl (by first | exact hy | exact mg_eq _ _ _ | fail "lk") rfl (by omega) (by omega) ?_
  refine z_aload 11 rfl rfl rfl ?_
  refine z_push 12 (nI 1) rfl rfl rfl ?_
  refine z_iload 13 rfl rfl rfl ?_
  refine z_ast 14 rfl rfl (by first | exact hy | exact mg_eq _ _ _ | fail "lk") rfl (by omega) (by omega) ?_
  refine z_aload 15 rfl rfl rfl ?_
  refine z_push 16 (nI 2) rfl rfl rfl ?_
  refine z_iload 17 rfl rfl rfl ?_
  refine z_ast 18 rfl rfl (by first | exact hy | exact mg_eq _ _ _ | fail "lk") rfl (by omega) (by omega) ?_
  refine z_push 19 (nI 1) rfl rfl rfl ?_
  refine z_iretb rfl (Nat.le_refl _) (Nat.le_refl _) (by first | decide | exact bI_01 _) ?_
  refine q _ ⟨_, mg_eq _ _ _, ?_, ?_, ?_⟩ ⟨rfl, fun x hx => by rw [mg_ne (show x ≠ y by omega) rfl, mg_ne (show x ≠ y by omega) rfl, mg_ne (show x ≠ y by omega) rfl]⟩
  · simp [upd]
  · simp [upd]
  · simp [upd]
set_option maxRecDepth 100000 in
theorem c_numberOf {d : Nat} {h : mH} {p m rc : Nat} {c : Bool} {E : List En} {H : List Sh} {i : Nat} {Q : mP} (hp : h.2 p = oPg 0 c p m rc) (hEA : EnA h (p + 6) 100 E) (hSA : ShA h (p + 12) 10 H) (hi : i < E.length + H.length)  (q : Q (some (.int (nI (itO E i)))) h) : mWP (d + 1) 37 [.ref p, .int (nI i)] h Q := by
  obtain ⟨hE0, s9, t9, n9, p9, f9, hE, hEF⟩ := id hEA
  obtain ⟨hH0, sS, vS, gS9, kS, hS, hSF⟩ := id hSA
  refine z_in [some (.ref p), some (.int (nI i))] (by rfl) rfl rfl rfl ?_
  refine z_iload 1 rfl rfl rfl ?_
  refine z_aload 2 rfl rfl rfl ?_
  refine z_get 5 rfl rfl (by first | exact hp | exact hE.1 | exact hE.2.1 | exact hE.2.2.1 | exact hE.2.2.2.1 | exact hE.2.2.2.2.1 | exact hE.2.2.2.2.2 | exact hS.1 | exact hS.2.1 | exact hS.2.2.1 | exact hS.2.2.2.1 | exact hS.2.2.2.2 | exact hy | fail "lk") rfl ?_
  refine z_get 8 rfl rfl (by first | exact hp | exact hE.1 | exact hE.2.1 | exact hE.2.2.1 | exact hE.2.2.2.1 | exact hE.2.2.2.2.1 | exact hE.2.2.2.2.2 | exact hS.1 | exact hS.2.1 | exact hS.2.2.1 | exact hS.2.2.2.1 | exact hS.2.2.2.2 | exact hy | fail "lk") rfl ?_
  refine z_nge 11 rfl rfl (by omega) (by omega) (fun hc8 => ?_) (fun hc8 => ?_)
  · refine z_push 17 (nI 100) rfl rfl rfl ?_
    refine z_iload 18 rfl rfl rfl ?_
    refine z_bop 19 _ rfl rfl (by first | with_reducible exact zb_0 _ _ | exact zd_0 _ _) ?_
    refine z_aload 20 rfl rfl rfl ?_
    refine z_get 23 rfl rfl (by first | exact hp | exact hE.1 | exact hE.2.1 | exact hE.2.2.1 | exact hE.2.2.2.1 | exact hE.2.2.2.2.1 | exact hE.2.2.2.2.2 | exact hS.1 | exact hS.2.1 | exact hS.2.2.1 | exact hS.2.2.2.1 | exact hS.2.2.2.2 | exact hy | fail "lk") rfl ?_
    refine z_get 26 rfl rfl (by first | exact hp | exact hE.1 | exact hE.2.1 | exact hE.2.2.1 | exact hE.2.2.2.1 | exact hE.2.2.2.2.1 | exact hE.2.2.2.2.2 | exact hS.1 | exact hS.2.1 | exact hS.2.2.1 | exact hS.2.2.2.1 | exact hS.2.2.2.2 | exact hy | fail "lk") rfl ?_
    refine z_bop 27 _ rfl rfl (by first | with_reducible exact zb_1 (by omega) | exact zd_1 _ _) ?_
    refine z_ireti rfl (Nat.le_refl _) (Nat.le_refl _) ?_
    rw [show itO E i = 100 + i - E.length from by rw [itO, if_neg (by omega)]] at q
    exact q
  · refine z_iload 12 rfl rfl rfl ?_
    refine z_goto rfl ?_
    refine z_ireti rfl (Nat.le_refl _) (Nat.le_refl _) ?_
    rw [show itO E i = i from if_pos (by omega)] at q
    exact q
set_option maxRecDepth 100000 in
theorem c_stateOf {d : Nat} {h : mH} {p m rc : Nat} {c : Bool} {E : List En} {H : List Sh} {i : Nat} {Q : mP} (hp : h.2 p = oPg 0 c p m rc) (hEA : EnA h (p + 6) 100 E) (hSA : ShA h (p + 12) 10 H) (hi : i < E.length + H.length)  (q : Q (some (.int (nI (itS E H i)))) h) : mWP (d + 1) 38 [.ref p, .int (nI i)] h Q := by
  obtain ⟨hE0, s9, t9, n9, p9, f9, hE, hEF⟩ := id hEA
  obtain ⟨hH0, sS, vS, gS9, kS, hS, hSF⟩ := id hSA
  refine z_in [some (.ref p), some (.int (nI i))] (by rfl) rfl rfl rfl ?_
  refine z_iload 1 rfl rfl rfl ?_
  refine z_aload 2 rfl rfl rfl ?_
  refine z_get 5 rfl rfl (by first | exact hp | exact hE.1 | exact hE.2.1 | exact hE.2.2.1 | exact hE.2.2.2.1 | exact hE.2.2.2.2.1 | exact hE.2.2.2.2.2 | exact hS.1 | exact hS.2.1 | exact hS.2.2.1 | exact hS.2.2.2.1 | exact hS.2.2.2.2 | exact hy | fail "lk") rfl ?_
  refine z_get 8 rfl rfl (by first | exact hp | exact hE.1 | exact hE.2.1 | exact hE.2.2.1 | exact hE.2.2.2.1 | exact hE.2.2.2.2.1 | exact hE.2.2.2.2.2 | exact hS.1 | exact hS.2.1 | exact hS.2.2.1 | exact hS.2.2.2.1 | exact hS.2.2.2.2 | exact hy | fail "lk") rfl ?_
  refine z_nge 11 rfl rfl (by omega) (by omega) (fun hc8 => ?_) (fun hc8 => ?_)
  · refine z_aload 24 rfl rfl rfl ?_
    refine z_get 27 rfl rfl (by first | exact hp | exact hE.1 | exact hE.2.1 | exact hE.2.2.1 | exact hE.2.2.2.1 | exact hE.2.2.2.2.1 | exact hE.2.2.2.2.2 | exact hS.1 | exact hS.2.1 | exact hS.2.2.1 | exact hS.2.2.2.1 | exact hS.2.2.2.2 | exact hy | fail "lk") rfl ?_
    refine z_get 30 rfl rfl (by first | exact hp | exact hE.1 | exact hE.2.1 | exact hE.2.2.1 | exact hE.2.2.2.1 | exact hE.2.2.2.2.1 | exact hE.2.2.2.2.2 | exact hS.1 | exact hS.2.1 | exact hS.2.2.1 | exact hS.2.2.2.1 | exact hS.2.2.2.2 | exact hy | fail "lk") rfl ?_
    refine z_iload 31 rfl rfl rfl ?_
    refine z_aload 32 rfl rfl rfl ?_
    refine z_get 35 rfl rfl (by first | exact hp | exact hE.1 | exact hE.2.1 | exact hE.2.2.1 | exact hE.2.2.2.1 | exact hE.2.2.2.2.1 | exact hE.2.2.2.2.2 | exact hS.1 | exact hS.2.1 | exact hS.2.2.1 | exact hS.2.2.2.1 | exact hS.2.2.2.2 | exact hy | fail "lk") rfl ?_
    refine z_get 38 rfl rfl (by first | exact hp | exact hE.1 | exact hE.2.1 | exact hE.2.2.1 | exact hE.2.2.2.1 | exact hE.2.2.2.2.1 | exact hE.2.2.2.2.2 | exact hS.1 | exact hS.2.1 | exact hS.2.2.1 | exact hS.2.2.2.1 | exact hS.2.2.2.2 | exact hy | fail "lk") rfl ?_
    refine z_bop 39 _ rfl rfl (by first | with_reducible exact zb_1 (by omega) | exact zd_1 _ _) ?_
    refine z_ald 40 rfl rfl (by first | exact hp | exact hE.1 | exact hE.2.1 | exact hE.2.2.1 | exact hE.2.2.2.1 | exact hE.2.2.2.2.1 | exact hE.2.2.2.2.2 | exact hS.1 | exact hS.2.1 | exact hS.2.2.1 | exact hS.2.2.2.1 | exact hS.2.2.2.2 | exact hy | fail "lk") rfl (by omega) (by omega) ?_
    simp only [(hSF (i - E.length) (by omega)).1]
    refine z_ireti rfl (Nat.le_refl _) (Nat.le_refl _) ?_
    rw [show itS E H i = shS H (i - E.length) from by rw [itS, if_neg (by omega)]] at q
    exact q
  · refine z_aload 12 rfl rfl rfl ?_
    refine z_get 15 rfl rfl (by first | exact hp | exact hE.1 | exact hE.2.1 | exact hE.2.2.1 | exact hE.2.2.2.1 | exact hE.2.2.2.2.1 | exact hE.2.2.2.2.2 | exact hS.1 | exact hS.2.1 | exact hS.2.2.1 | exact hS.2.2.2.1 | exact hS.2.2.2.2 | exact hy | fail "lk") rfl ?_
    refine z_get 18 rfl rfl (by first | exact hp | exact hE.1 | exact hE.2.1 | exact hE.2.2.1 | exact hE.2.2.2.1 | exact hE.2.2.2.2.1 | exact hE.2.2.2.2.2 | exact hS.1 | exact hS.2.1 | exact hS.2.2.1 | exact hS.2.2.2.1 | exact hS.2.2.2.2 | exact hy | fail "lk") rfl ?_
    refine z_iload 19 rfl rfl rfl ?_
    refine z_ald 20 rfl rfl (by first | exact hp | exact hE.1 | exact hE.2.1 | exact hE.2.2.1 | exact hE.2.2.2.1 | exact hE.2.2.2.2.1 | exact hE.2.2.2.2.2 | exact hS.1 | exact hS.2.1 | exact hS.2.2.1 | exact hS.2.2.2.1 | exact hS.2.2.2.2 | exact hy | fail "lk") rfl (by omega) (by omega) ?_
    simp only [(hEF i (by omega)).1]
    refine z_goto rfl ?_
    refine z_ireti rfl (Nat.le_refl _) (Nat.le_refl _) ?_
    rw [show itS E H i = enS E i from if_pos (by omega)] at q
    exact q
set_option maxRecDepth 100000 in
theorem c_textOfP {d : Nat} {h : mH} {p m rc : Nat} {c : Bool} {E : List En} {H : List Sh} {i : Nat} {Q : mP} (hp : h.2 p = oPg 0 c p m rc) (hEA : EnA h (p + 6) 100 E) (hSA : ShA h (p + 12) 10 H) (hi : i < E.length + H.length)  (q : Q (some (.int (nI (itT E H i)))) h) : mWP (d + 1) 39 [.ref p, .int (nI i)] h Q := by
  obtain ⟨hE0, s9, t9, n9, p9, f9, hE, hEF⟩ := id hEA
  obtain ⟨hH0, sS, vS, gS9, kS, hS, hSF⟩ := id hSA
  refine z_in [some (.ref p), some (.int (nI i))] (by rfl) rfl rfl rfl ?_
  refine z_iload 1 rfl rfl rfl ?_
  refine z_aload 2 rfl rfl rfl ?_
  refine z_get 5 rfl rfl (by first | exact hp | exact hE.1 | exact hE.2.1 | exact hE.2.2.1 | exact hE.2.2.2.1 | exact hE.2.2.2.2.1 | exact hE.2.2.2.2.2 | exact hS.1 | exact hS.2.1 | exact hS.2.2.1 | exact hS.2.2.2.1 | exact hS.2.2.2.2 | exact hy | fail "lk") rfl ?_
  refine z_get 8 rfl rfl (by first | exact hp | exact hE.1 | exact hE.2.1 | exact hE.2.2.1 | exact hE.2.2.2.1 | exact hE.2.2.2.2.1 | exact hE.2.2.2.2.2 | exact hS.1 | exact hS.2.1 | exact hS.2.2.1 | exact hS.2.2.2.1 | exact hS.2.2.2.2 | exact hy | fail "lk") rfl ?_
  refine z_nge 11 rfl rfl (by omega) (by omega) (fun hc8 => ?_) (fun hc8 => ?_)
  · refine z_aload 24 rfl rfl rfl ?_
    refine z_get 27 rfl rfl (by first | exact hp | exact hE.1 | exact hE.2.1 | exact hE.2.2.1 | exact hE.2.2.2.1 | exact hE.2.2.2.2.1 | exact hE.2.2.2.2.2 | exact hS.1 | exact hS.2.1 | exact hS.2.2.1 | exact hS.2.2.2.1 | exact hS.2.2.2.2 | exact hy | fail "lk") rfl ?_
    refine z_get 30 rfl rfl (by first | exact hp | exact hE.1 | exact hE.2.1 | exact hE.2.2.1 | exact hE.2.2.2.1 | exact hE.2.2.2.2.1 | exact hE.2.2.2.2.2 | exact hS.1 | exact hS.2.1 | exact hS.2.2.1 | exact hS.2.2.2.1 | exact hS.2.2.2.2 | exact hy | fail "lk") rfl ?_
    refine z_iload 31 rfl rfl rfl ?_
    refine z_aload 32 rfl rfl rfl ?_
    refine z_get 35 rfl rfl (by first | exact hp | exact hE.1 | exact hE.2.1 | exact hE.2.2.1 | exact hE.2.2.2.1 | exact hE.2.2.2.2.1 | exact hE.2.2.2.2.2 | exact hS.1 | exact hS.2.1 | exact hS.2.2.1 | exact hS.2.2.2.1 | exact hS.2.2.2.2 | exact hy | fail "lk") rfl ?_
    refine z_get 38 rfl rfl (by first | exact hp | exact hE.1 | exact hE.2.1 | exact hE.2.2.1 | exact hE.2.2.2.1 | exact hE.2.2.2.2.1 | exact hE.2.2.2.2.2 | exact hS.1 | exact hS.2.1 | exact hS.2.2.1 | exact hS.2.2.2.1 | exact hS.2.2.2.2 | exact hy | fail "lk") rfl ?_
    refine z_bop 39 _ rfl rfl (by first | with_reducible exact zb_1 (by omega) | exact zd_1 _ _) ?_
    refine z_ald 40 rfl rfl (by first | exact hp | exact hE.1 | exact hE.2.1 | exact hE.2.2.1 | exact hE.2.2.2.1 | exact hE.2.2.2.2.1 | exact hE.2.2.2.2.2 | exact hS.1 | exact hS.2.1 | exact hS.2.2.1 | exact hS.2.2.2.1 | exact hS.2.2.2.2 | exact hy | fail "lk") rfl (by omega) (by omega) ?_
    simp only [(hSF (i - E.length) (by omega)).2.1]
    refine z_ireti rfl (Nat.le_refl _) (Nat.le_refl _) ?_
    rw [show itT E H i = shV H (i - E.length) from by rw [itT, if_neg (by omega)]] at q
    exact q
  · refine z_aload 12 rfl rfl rfl ?_
    refine z_get 15 rfl rfl (by first | exact hp | exact hE.1 | exact hE.2.1 | exact hE.2.2.1 | exact hE.2.2.2.1 | exact hE.2.2.2.2.1 | exact hE.2.2.2.2.2 | exact hS.1 | exact hS.2.1 | exact hS.2.2.1 | exact hS.2.2.2.1 | exact hS.2.2.2.2 | exact hy | fail "lk") rfl ?_
    refine z_get 18 rfl rfl (by first | exact hp | exact hE.1 | exact hE.2.1 | exact hE.2.2.1 | exact hE.2.2.2.1 | exact hE.2.2.2.2.1 | exact hE.2.2.2.2.2 | exact hS.1 | exact hS.2.1 | exact hS.2.2.1 | exact hS.2.2.2.1 | exact hS.2.2.2.2 | exact hy | fail "lk") rfl ?_
    refine z_iload 19 rfl rfl rfl ?_
    refine z_ald 20 rfl rfl (by first | exact hp | exact hE.1 | exact hE.2.1 | exact hE.2.2.1 | exact hE.2.2.2.1 | exact hE.2.2.2.2.1 | exact hE.2.2.2.2.2 | exact hS.1 | exact hS.2.1 | exact hS.2.2.1 | exact hS.2.2.2.1 | exact hS.2.2.2.2 | exact hy | fail "lk") rfl (by omega) (by omega) ?_
    simp only [(hEF i (by omega)).2.1]
    refine z_goto rfl ?_
    refine z_ireti rfl (Nat.le_refl _) (Nat.le_refl _) ?_
    rw [show itT E H i = enT E i from if_pos (by omega)] at q
    exact q
set_option maxRecDepth 100000 in
theorem c_lengthOf {d : Nat} {h : mH} {p m rc : Nat} {c : Bool} {E : List En} {H : List Sh} {i : Nat} {Q : mP} (hp : h.2 p = oPg 0 c p m rc) (hEA : EnA h (p + 6) 100 E) (hSA : ShA h (p + 12) 10 H) (hi : i < E.length + H.length)  (q : Q (some (.int (nI (itN E i)))) h) : mWP (d + 1) 40 [.ref p, .int (nI i)] h Q := by
  obtain ⟨hE0, s9, t9, n9, p9, f9, hE, hEF⟩ := id hEA
  obtain ⟨hH0, sS, vS, gS9, kS, hS, hSF⟩ := id hSA
  refine z_in [some (.ref p), some (.int (nI i))] (by rfl) rfl rfl rfl ?_
  refine z_iload 1 rfl rfl rfl ?_
  refine z_aload 2 rfl rfl rfl ?_
  refine z_get 5 rfl rfl (by first | exact hp | exact hE.1 | exact hE.2.1 | exact hE.2.2.1 | exact hE.2.2.2.1 | exact hE.2.2.2.2.1 | exact hE.2.2.2.2.2 | exact hS.1 | exact hS.2.1 | exact hS.2.2.1 | exact hS.2.2.2.1 | exact hS.2.2.2.2 | exact hy | fail "lk") rfl ?_
  refine z_get 8 rfl rfl (by first | exact hp | exact hE.1 | exact hE.2.1 | exact hE.2.2.1 | exact hE.2.2.2.1 | exact hE.2.2.2.2.1 | exact hE.2.2.2.2.2 | exact hS.1 | exact hS.2.1 | exact hS.2.2.1 | exact hS.2.2.2.1 | exact hS.2.2.2.2 | exact hy | fail "lk") rfl ?_
  refine z_nge 11 rfl rfl (by omega) (by omega) (fun hc8 => ?_) (fun hc8 => ?_)
  · refine z_push 24 (nI 1) rfl rfl rfl ?_
    refine z_ireti rfl (Nat.le_refl _) (Nat.le_refl _) ?_
    rw [show itN E i = 1 from by rw [itN, if_neg (by omega)]] at q
    exact q
  · refine z_aload 12 rfl rfl rfl ?_
    refine z_get 15 rfl rfl (by first | exact hp | exact hE.1 | exact hE.2.1 | exact hE.2.2.1 | exact hE.2.2.2.1 | exact hE.2.2.2.2.1 | exact hE.2.2.2.2.2 | exact hS.1 | exact hS.2.1 | exact hS.2.2.1 | exact hS.2.2.2.1 | exact hS.2.2.2.2 | exact hy | fail "lk") rfl ?_
    refine z_get 18 rfl rfl (by first | exact hp | exact hE.1 | exact hE.2.1 | exact hE.2.2.1 | exact hE.2.2.2.1 | exact hE.2.2.2.2.1 | exact hE.2.2.2.2.2 | exact hS.1 | exact hS.2.1 | exact hS.2.2.1 | exact hS.2.2.2.1 | exact hS.2.2.2.2 | exact hy | fail "lk") rfl ?_
    refine z_iload 19 rfl rfl rfl ?_
    refine z_ald 20 rfl rfl (by first | exact hp | exact hE.1 | exact hE.2.1 | exact hE.2.2.1 | exact hE.2.2.2.1 | exact hE.2.2.2.2.1 | exact hE.2.2.2.2.2 | exact hS.1 | exact hS.2.1 | exact hS.2.2.1 | exact hS.2.2.2.1 | exact hS.2.2.2.2 | exact hy | fail "lk") rfl (by omega) (by omega) ?_
    simp only [(hEF i (by omega)).2.2.1]
    refine z_goto rfl ?_
    refine z_ireti rfl (Nat.le_refl _) (Nat.le_refl _) ?_
    rw [show itN E i = enN E i from if_pos (by omega)] at q
    exact q
theorem it_b {E : List En} {H : List Sh} (hW : TbW E H) {i : Nat} (hi : i < E.length + H.length) : itS E H i < 4 ∧ 1 ≤ itN E i ∧ itN E i ≤ 3 ∧ itT E H i < 16777216 := by
  unfold itS itN itT
  by_cases e : i < E.length
  · rw [if_pos e, if_pos e, if_pos e]
    have h := hW.2.2.1 i e
    have h2 := hW.tx e
    omega
  · rw [if_neg e, if_neg e, if_neg e]
    have h := hW.2.2.2 (i - E.length) (by omega)
    omega
theorem clh_eq {E : List En} {H : List Sh} {i k t : Nat} (ht : (t = itN E i ∧ itN E i ≤ itN E k) ∨ (t = itN E k ∧ itN E k ≤ itN E i)) : (bgn E H i k || bgn E H k i) = decide (itT E H i / 2 ^ (8 * (itN E i - t)) = itT E H k / 2 ^ (8 * (itN E k - t))) := by
  rw [Bool.eq_iff_iff, Bool.or_eq_true, decide_eq_true_eq]
  unfold bgn
  rw [decide_eq_true_eq, decide_eq_true_eq]
  rcases ht with ⟨rfl, h⟩ | ⟨rfl, h⟩
  · rw [Nat.sub_self, Nat.mul_zero, Nat.pow_zero, Nat.div_one]
    constructor
    · rintro (h1 | h1)
      · exact h1.2
      · have e : itN E i = itN E k := by omega
        have h2 := h1.2
        rw [e, Nat.sub_self, Nat.mul_zero, Nat.pow_zero, Nat.div_one] at h2
        rw [e, Nat.sub_self, Nat.mul_zero, Nat.pow_zero, Nat.div_one]
        exact h2.symm
    · exact fun h1 => Or.inl ⟨h, h1⟩
  · rw [Nat.sub_self, Nat.mul_zero, Nat.pow_zero, Nat.div_one]
    constructor
    · rintro (h1 | h1)
      · have e : itN E i = itN E k := by omega
        have h2 := h1.2
        rw [e, Nat.sub_self, Nat.mul_zero, Nat.pow_zero, Nat.div_one] at h2
        rw [e, Nat.sub_self, Nat.mul_zero, Nat.pow_zero, Nat.div_one]
        exact h2
      · exact h1.2.symm
    · exact fun h1 => Or.inr ⟨h, h1.symm⟩
set_option maxRecDepth 100000 in
theorem c_clash {d : Nat} {h : mH} {p m rc : Nat} {c : Bool} {E : List En} {H : List Sh} {i k : Nat} {Q : mP} (hp : h.2 p = oPg 0 c p m rc) (hEA : EnA h (p + 6) 100 E) (hSA : ShA h (p + 12) 10 H) (hW : TbW E H) (hi : i < E.length + H.length) (hk : k < E.length + H.length)  (q : Q (some (.int (bI (clh E H i k)))) h) : mWP (d + 2) 41 [.ref p, .int (nI i), .int (nI k)] h Q := by
  have bi := it_b hW hi
  have bk := it_b hW hk
  obtain ⟨t, ht0, ht1, ht2, ht3⟩ := minN (itN E i) (itN E k)
  have hce := clh_eq (E := E) (H := H) (i := i) (k := k) (t := t) (by omega)
  have d1 := Nat.div_le_self (itT E H i) (2 ^ (8 * (itN E i - t)))
  have d2 := Nat.div_le_self (itT E H k) (2 ^ (8 * (itN E k - t)))
  refine z_in [some (.ref p), some (.int (nI i)), some (.int (nI k)), none] (by rfl) rfl rfl rfl ?_
  refine z_aload 1 rfl rfl rfl ?_
  refine z_iload 2 rfl rfl rfl ?_
  refine z_cv1 5 rfl rfl hp rfl (Nat.le_refl _) (Nat.le_refl _) ?_
  refine c_stateOf hp hEA hSA hi ?_
  refine z_aload 6 rfl rfl rfl ?_
  refine z_iload 7 rfl rfl rfl ?_
  refine z_cv1 10 rfl rfl hp rfl (Nat.le_refl _) (Nat.le_refl _) ?_
  refine c_stateOf hp hEA hSA hk ?_
  refine z_neq 13 rfl rfl (by omega) (by omega) (fun hc10 => ?_) (fun hc10 => ?_)
  · refine z_aload 16 rfl rfl rfl ?_
    refine z_iload 17 rfl rfl rfl ?_
    refine z_cv1 20 rfl rfl hp rfl (Nat.le_refl _) (Nat.le_refl _) ?_
    refine c_lengthOf hp hEA hSA hi ?_
    refine z_aload 21 rfl rfl rfl ?_
    refine z_iload 22 rfl rfl rfl ?_
    refine z_cv1 25 rfl rfl hp rfl (Nat.le_refl _) (Nat.le_refl _) ?_
    refine c_lengthOf hp hEA hSA hk ?_
    refine z_min 28 _ rfl rfl rfl (Nat.le_refl _) (Nat.le_refl _) (show _ = nI t from (zminN (by omega) (by omega)).trans (by rw [ht0])) ?_
    refine z_istore 29 rfl rfl rfl rfl ?_
    refine z_aload 30 rfl rfl rfl ?_
    refine z_iload 31 rfl rfl rfl ?_
    refine z_cv1 34 rfl rfl hp rfl (Nat.le_refl _) (Nat.le_refl _) ?_
    refine c_textOfP hp hEA hSA hi ?_
    refine z_push 36 (nI 8) rfl rfl rfl ?_
    refine z_aload 37 rfl rfl rfl ?_
    refine z_iload 38 rfl rfl rfl ?_
    refine z_cv1 41 rfl rfl hp rfl (Nat.le_refl _) (Nat.le_refl _) ?_
    refine c_lengthOf hp hEA hSA hi ?_
    refine z_iload 42 rfl rfl rfl ?_
    refine z_bop 43 _ rfl rfl (zb_1 (by omega)) ?_
    refine z_bop 44 _ rfl rfl (zb_2 _ _) ?_
    refine z_bop 45 _ rfl rfl (shr_n (by omega) _ (by omega)) ?_
    refine z_aload 46 rfl rfl rfl ?_
    refine z_iload 47 rfl rfl rfl ?_
    refine z_cv1 50 rfl rfl hp rfl (Nat.le_refl _) (Nat.le_refl _) ?_
    refine c_textOfP hp hEA hSA hk ?_
    refine z_push 52 (nI 8) rfl rfl rfl ?_
    refine z_aload 53 rfl rfl rfl ?_
    refine z_iload 54 rfl rfl rfl ?_
    refine z_cv1 57 rfl rfl hp rfl (Nat.le_refl _) (Nat.le_refl _) ?_
    refine c_lengthOf hp hEA hSA hk ?_
    refine z_iload 58 rfl rfl rfl ?_
    refine z_bop 59 _ rfl rfl (zb_1 (by omega)) ?_
    refine z_bop 60 _ rfl rfl (zb_2 _ _) ?_
    refine z_bop 61 _ rfl rfl (shr_n (by omega) _ (by omega)) ?_
    refine z_nne 64 rfl rfl (by omega) (by omega) (fun hc61 => ?_) (fun hc61 => ?_)
    · refine z_push 69 (nI 0) rfl rfl rfl ?_
      refine z_iretb rfl (Nat.le_refl _) (Nat.le_refl _) (by first | decide | exact bI_01 _) ?_
      rw [clh, decide_eq_true hc10, Bool.true_and, hce, decide_eq_false hc61] at q
      exact q
    · refine z_push 65 (nI 1) rfl rfl rfl ?_
      refine z_goto rfl ?_
      refine z_iretb rfl (Nat.le_refl _) (Nat.le_refl _) (by first | decide | exact bI_01 _) ?_
      rw [clh, decide_eq_true hc10, Bool.true_and, hce, decide_eq_true hc61] at q
      exact q
  · refine z_push 14 (nI 0) rfl rfl rfl ?_
    refine z_iretb rfl (Nat.le_refl _) (Nat.le_refl _) (by first | decide | exact bI_01 _) ?_
    rw [clh, decide_eq_false hc10, Bool.false_and] at q
    exact q
