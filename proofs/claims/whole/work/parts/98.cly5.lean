/-! the class: differ -/
set_option maxRecDepth 100000 in
theorem c_pointFromN {d : Nat} {h : mH} {p m rc x : Nat} {c : Bool} {E : List En} {od : Nat → Int32} {Q : mP} (hp : h.2 p = oPg 0 c p m rc) (hEA : EnA h (p + 6) 100 E) (ho : h.2 (p + 19) = aI 100 od) (hO : OrOk E od m) (hpb : ∀ k, k < E.length → enP E k < 1114112) (hpn : ∀ k, k < E.length → nPt (enP E k) = true) (hx : x ≤ 1114112)  (q : ∀ y, x ≤ y → y ≤ 1114112 → (y < 1114112 → nPt y = true) → (∀ v, x ≤ v → v < y → cvP 0 E v = false) → Q (some (.int (nI y))) h) : mWP (d + 2) 53 [.ref p, .int (nI x)] h Q := by
  have hO1 := hO
  have hEA1 := hEA
  obtain ⟨hE0, s9, t9, n9, p9, f9, hE, hEF⟩ := hEA1
  obtain ⟨hm9, os, hos, hso, hal⟩ := hO1
  have hos2 : ∀ j, j < m → os j < E.length ∧ enF E (os j) = true := fun j hj => (hos j hj).2
  refine z_in [some (.ref p), some (.int (nI x)), none] (by rfl) rfl rfl rfl ?_
  refine z_aload 1 rfl rfl rfl ?_
  refine z_get 4 rfl rfl (by first | exact hp | exact hE.1 | exact hE.2.1 | exact hE.2.2.1 | exact hE.2.2.2.1 | exact hE.2.2.2.2.1 | exact hE.2.2.2.2.2 | exact ho | fail "lk") rfl ?_
  refine z_zne 7 rfl rfl (by omega) (fun h9 => absurd h9 (by omega)) (fun _ => ?_)
  refine z_aload 8 rfl rfl rfl ?_
  refine z_iload 9 rfl rfl rfl ?_
  refine z_cv1 12 rfl rfl (by first | exact hp | exact hE.1 | exact hE.2.1 | exact hE.2.2.1 | exact hE.2.2.2.1 | exact hE.2.2.2.2.1 | exact hE.2.2.2.2.2 | exact ho | fail "lk") rfl (Nat.le_refl _) (Nat.le_refl _) ?_
  refine c_placeFrom hp hEA ho hpb (by omega) hm9 hos hso (fun r hrm hlo hhi => ?_)
  refine z_istore 13 rfl rfl rfl rfl ?_
  refine z_iload 14 rfl rfl rfl ?_
  refine z_aload 15 rfl rfl rfl ?_
  refine z_get 18 rfl rfl (by first | exact hp | exact hE.1 | exact hE.2.1 | exact hE.2.2.1 | exact hE.2.2.2.1 | exact hE.2.2.2.2.1 | exact hE.2.2.2.2.2 | exact ho | fail "lk") rfl ?_
  refine z_nge 21 rfl rfl (by omega) (by omega) (fun hc18 => ?_) (fun hc18 => ?_)
  · refine z_push 40 (nI 1114112) rfl rfl rfl ?_
    refine z_ireti rfl (Nat.le_refl _) (Nat.le_refl _) ?_
    exact q _ hx (Nat.le_refl _) (fun h9 => absurd h9 (by omega)) (fun v h1 h2 => cvP_no hso hal hlo h1 (fun h9 => absurd h9 (by omega)))
  · refine z_aload 22 rfl rfl rfl ?_
    refine z_get 25 rfl rfl (by first | exact hp | exact hE.1 | exact hE.2.1 | exact hE.2.2.1 | exact hE.2.2.2.1 | exact hE.2.2.2.2.1 | exact hE.2.2.2.2.2 | exact ho | fail "lk") rfl ?_
    refine z_get 28 rfl rfl (by first | exact hp | exact hE.1 | exact hE.2.1 | exact hE.2.2.1 | exact hE.2.2.2.1 | exact hE.2.2.2.2.1 | exact hE.2.2.2.2.2 | exact ho | fail "lk") rfl ?_
    refine z_aload 29 rfl rfl rfl ?_
    refine z_get 32 rfl rfl (by first | exact hp | exact hE.1 | exact hE.2.1 | exact hE.2.2.1 | exact hE.2.2.2.1 | exact hE.2.2.2.2.1 | exact hE.2.2.2.2.2 | exact ho | fail "lk") rfl ?_
    refine z_iload 33 rfl rfl rfl ?_
    refine z_ald 34 rfl rfl (by first | exact hp | exact hE.1 | exact hE.2.1 | exact hE.2.2.1 | exact hE.2.2.2.1 | exact hE.2.2.2.2.1 | exact hE.2.2.2.2.2 | exact ho | fail "lk") rfl (by omega) (by omega) ?_
    obtain ⟨q1, q2, q3⟩ := hos r (by omega)
    rw [q1]
    refine z_ald 35 rfl rfl (by first | exact hp | exact hE.1 | exact hE.2.1 | exact hE.2.2.1 | exact hE.2.2.2.1 | exact hE.2.2.2.2.1 | exact hE.2.2.2.2.2 | exact ho | fail "lk") rfl (by omega) (by omega) ?_
    have hef := (hEF (os r) q2).2.2.2.1
    have hpl := hpb _ q2
    simp only [hef]
    refine z_goto rfl ?_
    refine z_ireti rfl (Nat.le_refl _) (Nat.le_refl _) ?_
    exact q _ (hhi r (Nat.le_refl _) (by omega)) (by omega) (fun _ => hpn _ q2) (fun v h1 h2 => cvP_no hso hal hlo h1 (fun _ => h2))
theorem nPt_of {y : Nat} (h : y < 1114112) (h2 : ¬ (55296 ≤ y ∧ y ≤ 57343)) : nPt y = true := by
  rw [nPt, decide_eq_true h, decide_eq_false h2]; rfl
set_option maxRecDepth 100000 in
theorem c_pointFromKN {d : Nat} {h : mH} {p K m rc x : Nat} {c : Bool} {E : List En} {Q : mP} (hp : h.2 p = oPg K c p m rc) (hK : K ≠ 0) (hK4 : K < 4) (hx : x ≤ 1114112)  (q : ∀ y, x ≤ y → y ≤ 1114112 → (y < 1114112 → nPt y = true) → (∀ v, x ≤ v → v < y → cvP K E v = false) → Q (some (.int (nI y))) h) : mWP (d + 2) 53 [.ref p, .int (nI x)] h Q := by
  refine z_in [some (.ref p), some (.int (nI x)), none] (by rfl) rfl rfl rfl ?_
  refine z_aload 1 rfl rfl rfl ?_
  refine z_get 4 rfl rfl (by first | exact hp | exact hE.1 | exact hE.2.1 | exact hE.2.2.1 | exact hE.2.2.2.1 | exact hE.2.2.2.2.1 | exact hE.2.2.2.2.2 | exact ho | fail "lk") rfl ?_
  refine z_zne 7 rfl rfl (by omega) (fun _ => ?_) (fun h9 => absurd h9 (by omega))
  refine z_iload 42 rfl rfl rfl ?_
  refine z_cs1 45 rfl rfl rfl (Nat.le_refl _) (Nat.le_refl _) ?_
  refine c_isHalf ?_
  rw [jHalf_n (by omega)]
  first | refine z_deq 48 rfl rfl (fun hc45 => ?_) (fun hc45 => ?_)
  · refine z_iload 54 rfl rfl rfl ?_
    refine z_push 56 (nI 1114112) rfl rfl rfl ?_
    refine z_min 59 _ rfl rfl rfl (Nat.le_refl _) (Nat.le_refl _) (show _ = nI x from (zminN (by omega) (by omega)).trans (by rw [show min x 1114112 = x from Nat.min_eq_left hx])) ?_
    refine z_ireti rfl (Nat.le_refl _) (Nat.le_refl _) ?_
    exact q x (Nat.le_refl _) hx (fun h9 => nPt_of h9 (by omega)) (fun v h1 h2 => absurd h2 (by omega))
  · refine z_push 50 (nI 57344) rfl rfl rfl ?_
    refine z_goto rfl ?_
    refine z_ireti rfl (Nat.le_refl _) (Nat.le_refl _) ?_
    exact q 57344 (by omega) (by omega) (fun h9 => rfl) (fun v h1 h2 => cvP_half (by omega))
theorem c_pgFrom {d : Nat} {h : mH} {p K x : Nat} {E : List En} {H : List Sh} {Q : mP} (hP : PgC h p K E H) (hW : TbW E H) (hx : x ≤ 1114112) (q : ∀ y, x ≤ y → y ≤ 1114112 → (y < 1114112 → nPt y = true) → (∀ v, x ≤ v → v < y → cvP K E v = false) → Q (some (.int (nI y))) h) : mWP (d + 2) 53 [.ref p, .int (nI x)] h Q := by
  rcases hP with ⟨e, m, rc, hd, nx, od, T, N, A, S, ht, ho, _, _, hO, _⟩ | ⟨e, e2, e3, e4, m, T, N, A, S, ht, _⟩
  · subst e
    exact c_pointFromN ht.1 ht.2.1 ho hO (fun k hk => nPt_lt (hW.2.2.1 k hk).2.2.2.2) (fun k hk => (hW.2.2.1 k hk).2.2.2.2) hx q
  · exact c_pointFromKN ht e e2 hx q
theorem alW_n {F : List Fb} {K sg pt : Nat} {E : List En} {H : List Sh} (h : wp1 F K E H 0 sg pt 0 = none) : alW K E H pt = none := by
  unfold wp1 at h
  unfold alW
  split at h
  · cases h
  · rename_i e; rw [e]
theorem alW_s {F : List Fb} {K sg pt : Nat} {E : List En} {H : List Sh} {y : List Nat × Nat} (h : wp1 F K E H 0 sg pt 0 = some y) : alW K E H pt = some (y.1 ++ (ghW K H y.2).1) := by
  unfold wp1 at h
  unfold alW
  split at h
  · rename_i x e; cases h; rw [e]
  · cases h
theorem CI.ow {h h' : mH} {A : Ab} {pad : Nat → Nat} {sp : Option Nat} {res wrk p ru st o n : Nat} {l l2 u : List Nat} (hC : CI h A pad sp res wrk) (ho : (o = wrk ∧ n = 6000) ∨ (o = 11 ∧ n = 2000)) (hw : RwAt h' o n l) (hWr : WrAt h' 43 16 p ru st l2 u) (f : ∀ x, (x < 43 ∨ 48 ≤ x) → (x < o ∨ o + 2 ≤ x) → h'.2 x = h.2 x) (hs : h'.1 = h.1) : CI h' A pad sp res wrk := by
  have cr := hC.2.1
  rcases ho with ⟨e1, e2⟩ | ⟨e1, e2⟩
  · subst e1 e2; exact hC.wk hw hWr f hs
  · subst e1 e2
    obtain ⟨⟨lw, s1⟩, _, ⟨_, _, _, _, _, s3⟩, _, _, s5⟩ := hC.2.2.2.2.2.2.1
    exact hC.sc ⟨⟨lw, s1.e (fun x x1 x2 => f x (by omega) (by omega))⟩, ⟨l, hw⟩, ⟨_, _, _, _, _, s3.e (fun x x1 x2 => f x (by omega) (by omega))⟩, ⟨_, _, _, _, _, hWr⟩, _, (f _ (by omega) (by omega)).trans s5⟩ (fun x x1 x2 x3 x4 => f x (by omega) (by omega)) hs
set_option maxRecDepth 100000 in
theorem c_writeAlone {d : Nat} {h : mH} {A : Ab} {pad : Nat → Nat} {sp : Option Nat} {res wrk : Nat} {P pt o n : Nat} {l0 : List Nat} {Q : mP} (hC : CI h A pad sp res wrk) (hA : AbW A) (hFN : ∀ x, fbN A.fbs 40 x ≤ 16) (hP : P < A.pgs.length) (hcl : pgC A.pgs P = true) (hpt : pt < 1114112) (ho : (o = wrk ∧ n = 6000) ∨ (o = 11 ∧ n = 2000)) (hw0 : RwAt h o n l0)  (q0 : alW (pgK A.pgs P) (pgE A.pgs P) (pgH A.pgs P) pt = none → ∀ h', CI h' A pad sp res wrk → RwAt h' o n [] → (∀ x, (x < 43 ∨ 48 ≤ x) → (x < o ∨ o + 2 ≤ x) → h'.2 x = h.2 x) → h'.1 = h.1 → Q (some (.int (nI 0))) h') (q1 : ∀ l, alW (pgK A.pgs P) (pgE A.pgs P) (pgH A.pgs P) pt = some l → ∀ h', CI h' A pad sp res wrk → RwAt h' o n l → (∀ x, (x < 43 ∨ 48 ≤ x) → (x < o ∨ o + 2 ≤ x) → h'.2 x = h.2 x) → h'.1 = h.1 → Q (some (.int (nI 1))) h') : mWP (d + 8) 167 [.ref 1, .ref (pad P), .int (nI pt), .ref o] h Q := by
  obtain ⟨c1, cr, cp, cb, cu, cq, cs, ck, cru, cm⟩ := id hC
  obtain ⟨cp0, ⟨pf, cp1, cp2⟩, cp3, cp4, cp5⟩ := id cp
  obtain ⟨hPB, hKb, hGd, hbb, hub, hsg1, hsg2, hFW, hFd⟩ := id hA
  have hW := hPB P hP
  have hG := hGd P hP hcl
  have hs2 := nPt_lt hsg2
  obtain ⟨hpad, hpad2, hPR⟩ := cp3 P hP
  have hPC0 : PgC h (pad P) (pgK A.pgs P) (pgE A.pgs P) (pgH A.pgs P) := PgR.cl (by rw [← hcl]; exact hPR)
  obtain ⟨p5, ru5, st5, l5, u5, hwr⟩ := cs.2.2.2.1
  have ho9 : 7 ≤ o ∧ o ≤ 11 ∧ 2000 ≤ n ∧ n ≤ 6000 := by omega
  refine z_in [some (.ref 1), some (.ref (pad P)), some (.int (nI pt)), some (.ref o)] (by rfl) rfl rfl rfl ?_
  refine z_aload 1 rfl rfl rfl ?_
  refine z_cv0 4 rfl rfl (by first | exact c1 | exact hw0.1 | exact c11 | exact hwr1.1 | exact hwr2.1 | exact c12 | exact hwr3.1 | exact c13 | exact hw3.1 | exact c14 | exact hwr4.1 | exact hw4.1 | exact c15 | exact hwr5.1 | exact hw5.1 | fail "lk") rfl (Nat.le_refl _) (Nat.le_refl _) ?_
  refine w_clear hw0 (fun h1 hw1 hF1 => ?_)
  have g1 : ∀ x, (x < 43 ∨ 48 ≤ x) → (x < o ∨ o + 2 ≤ x) → h1.2 x = h.2 x := fun x x1 x2 => (hF1.2 x (by omega)).trans (rfl)
  have z1 : h1.1 = h.1 := hF1.1
  have c11 := (g1 1 (by omega) (by omega)).trans c1
  have hwr1 := hwr.e (h' := h1) (fun x x1 x2 => hF1.2 x (by omega))
  refine z_aload 5 rfl rfl rfl ?_
  refine z_get 8 rfl rfl (by first | exact c1 | exact hw0.1 | exact c11 | exact hwr1.1 | exact hwr2.1 | exact c12 | exact hwr3.1 | exact c13 | exact hw3.1 | exact c14 | exact hwr4.1 | exact hw4.1 | exact c15 | exact hwr5.1 | exact hw5.1 | fail "lk") rfl ?_
  refine z_aload 9 rfl rfl rfl ?_
  refine z_push 10 (nI 0) rfl rfl rfl ?_
  refine z_push 11 (nI 0) rfl rfl rfl ?_
  refine z_cv3 14 rfl rfl (by first | exact c1 | exact hw0.1 | exact c11 | exact hwr1.1 | exact hwr2.1 | exact c12 | exact hwr3.1 | exact c13 | exact hw3.1 | exact c14 | exact hwr4.1 | exact hw4.1 | exact c15 | exact hwr5.1 | exact hw5.1 | fail "lk") rfl (Nat.le_refl _) (Nat.le_refl _) ?_
  refine c_Wr_open hwr1 (fun h2 hwr2 hF2 => ?_)
  have g2 : ∀ x, (x < 43 ∨ 48 ≤ x) → (x < o ∨ o + 2 ≤ x) → h2.2 x = h.2 x := fun x x1 x2 => (hF2.2 x (by omega)).trans (g1 x x1 x2)
  have z2 : h2.1 = h.1 := hF2.1.trans z1
  have c12 := (g2 1 (by omega) (by omega)).trans c1
  have hw2 := hw1.e (h' := h2) (fun x x1 x2 => hF2.2 x (by omega))
  have hru2 : RuAt h2 16 A.sgn.1 A.sgn.2 A.fbs := cru.e (fun x x1 x2 => g2 x (by omega) (by omega))
  have hPC2 := hPC0.e (h' := h2) (fun x x1 x2 => g2 x (by omega) (by omega))
  refine z_aload 15 rfl rfl rfl ?_
  refine z_get 18 rfl rfl (by first | exact c1 | exact hw0.1 | exact c11 | exact hwr1.1 | exact hwr2.1 | exact c12 | exact hwr3.1 | exact c13 | exact hw3.1 | exact c14 | exact hwr4.1 | exact hw4.1 | exact c15 | exact hwr5.1 | exact hw5.1 | fail "lk") rfl ?_
  refine z_iload 19 rfl rfl rfl ?_
  refine z_iload 20 rfl rfl rfl ?_
  refine z_cv2 23 rfl rfl (by first | exact c1 | exact hw0.1 | exact c11 | exact hwr1.1 | exact hwr2.1 | exact c12 | exact hwr3.1 | exact c13 | exact hw3.1 | exact c14 | exact hwr4.1 | exact hw4.1 | exact c15 | exact hwr5.1 | exact hw5.1 | fail "lk") rfl (Nat.le_refl _) (Nat.le_refl _) ?_
  refine c_write hwr2 hru2 hPC2 hW hG (SOk0 _ _) (fun _ => rfl) hFW hFd hFN hs2 (by decide) (by omega) (by omega) hpt (fun hn h3 u3 hwr3 hF3 => ?_) (fun y hy h3 u3 hwr3 hF3 => ?_)
  · have g3 : ∀ x, (x < 43 ∨ 48 ≤ x) → (x < o ∨ o + 2 ≤ x) → h3.2 x = h.2 x := fun x x1 x2 => (hF3.2 x (by omega)).trans (g2 x x1 x2)
    have z3 : h3.1 = h.1 := hF3.1.trans z2
    have c13 := (g3 1 (by omega) (by omega)).trans c1
    have hw3 := hw2.e (h' := h3) (fun x x1 x2 => hF3.2 x (by omega))
    refine z_zne 26 rfl rfl (by omega) (fun h9 => absurd h9 (by omega)) (fun _ => ?_)
    refine z_push 27 (nI 0) rfl rfl rfl ?_
    refine z_iretb rfl (Nat.le_refl _) (Nat.le_refl _) (by first | decide | exact bI_01 _) ?_
    exact q0 (alW_n hn) h3 (hC.ow ho hw3 hwr3 g3 z3) hw3 g3 z3
  · have g3 : ∀ x, (x < 43 ∨ 48 ≤ x) → (x < o ∨ o + 2 ≤ x) → h3.2 x = h.2 x := fun x x1 x2 => (hF3.2 x (by omega)).trans (g2 x x1 x2)
    have z3 : h3.1 = h.1 := hF3.1.trans z2
    have c13 := (g3 1 (by omega) (by omega)).trans c1
    have hw3 := hw2.e (h' := h3) (fun x x1 x2 => hF3.2 x (by omega))
    have hyl := wp1_len1 hW hs2 hpt (by decide) hy
    refine z_zne 26 rfl rfl (by omega) (fun _ => ?_) (fun h9 => absurd h9 (by omega))
    refine z_aload 29 rfl rfl rfl ?_
    refine z_aload 30 rfl rfl rfl ?_
    refine z_get 33 rfl rfl (by first | exact c1 | exact hw0.1 | exact c11 | exact hwr1.1 | exact hwr2.1 | exact c12 | exact hwr3.1 | exact c13 | exact hw3.1 | exact c14 | exact hwr4.1 | exact hw4.1 | exact c15 | exact hwr5.1 | exact hw5.1 | fail "lk") rfl ?_
    refine z_get 36 rfl rfl (by first | exact c1 | exact hw0.1 | exact c11 | exact hwr1.1 | exact hwr2.1 | exact c12 | exact hwr3.1 | exact c13 | exact hw3.1 | exact c14 | exact hwr4.1 | exact hw4.1 | exact c15 | exact hwr5.1 | exact hw5.1 | fail "lk") rfl ?_
    refine z_cv1 39 rfl rfl (by first | exact c1 | exact hw0.1 | exact c11 | exact hwr1.1 | exact hwr2.1 | exact c12 | exact hwr3.1 | exact c13 | exact hw3.1 | exact c14 | exact hwr4.1 | exact hw4.1 | exact c15 | exact hwr5.1 | exact hw5.1 | fail "lk") rfl (Nat.le_refl _) (Nat.le_refl _) ?_
    refine w_addAllN hw3 hwr3.2.1 (by omega) (by decide) (fun hle h4 hw4 hF4 => ?_) (fun hlt => absurd hlt (by rw [List.length_nil]; omega))
    have g4 : ∀ x, (x < 43 ∨ 48 ≤ x) → (x < o ∨ o + 2 ≤ x) → h4.2 x = h.2 x := fun x x1 x2 => (hF4.2 x (by omega)).trans (g3 x x1 x2)
    have z4 : h4.1 = h.1 := hF4.1.trans z3
    have c14 := (g4 1 (by omega) (by omega)).trans c1
    have hwr4 := hwr3.e (h' := h4) (fun x x1 x2 => hF4.2 x (by omega))
    rw [List.nil_append] at hw4
    have hPC4 := hPC0.e (h' := h4) (fun x x1 x2 => g4 x (by omega) (by omega))
    refine z_pop 40 rfl rfl ?_
    refine z_aload 41 rfl rfl rfl ?_
    refine z_get 44 rfl rfl (by first | exact c1 | exact hw0.1 | exact c11 | exact hwr1.1 | exact hwr2.1 | exact c12 | exact hwr3.1 | exact c13 | exact hw3.1 | exact c14 | exact hwr4.1 | exact hw4.1 | exact c15 | exact hwr5.1 | exact hw5.1 | fail "lk") rfl ?_
    refine z_cv0 47 rfl rfl (by first | exact c1 | exact hw0.1 | exact c11 | exact hwr1.1 | exact hwr2.1 | exact c12 | exact hwr3.1 | exact c13 | exact hw3.1 | exact c14 | exact hwr4.1 | exact hw4.1 | exact c15 | exact hwr5.1 | exact hw5.1 | fail "lk") rfl (Nat.le_refl _) (Nat.le_refl _) ?_
    refine c_finish hwr4 hPC4 (wp1_ok hG (SOk0 _ _) y hy).1 (gh_g hG (wp1_ok hG (SOk0 _ _) y hy)) (wp1_k0 (fun _ => rfl) hy) (by omega) (fun h5 hwr5 hF5 => ?_)
    have g5 : ∀ x, (x < 43 ∨ 48 ≤ x) → (x < o ∨ o + 2 ≤ x) → h5.2 x = h.2 x := fun x x1 x2 => (hF5.2 x (by omega)).trans (g4 x x1 x2)
    have z5 : h5.1 = h.1 := hF5.1.trans z4
    have c15 := (g5 1 (by omega) (by omega)).trans c1
    have hw5 := hw4.e (h' := h5) (fun x x1 x2 => hF5.2 x (by omega))
    have hgl := ghW_len (K := pgK A.pgs P) (st := y.2) (H := pgH A.pgs P)
    refine z_aload 48 rfl rfl rfl ?_
    refine z_aload 49 rfl rfl rfl ?_
    refine z_get 52 rfl rfl (by first | exact c1 | exact hw0.1 | exact c11 | exact hwr1.1 | exact hwr2.1 | exact c12 | exact hwr3.1 | exact c13 | exact hw3.1 | exact c14 | exact hwr4.1 | exact hw4.1 | exact c15 | exact hwr5.1 | exact hw5.1 | fail "lk") rfl ?_
    refine z_get 55 rfl rfl (by first | exact c1 | exact hw0.1 | exact c11 | exact hwr1.1 | exact hwr2.1 | exact c12 | exact hwr3.1 | exact c13 | exact hw3.1 | exact c14 | exact hwr4.1 | exact hw4.1 | exact c15 | exact hwr5.1 | exact hw5.1 | fail "lk") rfl ?_
    refine z_cv1 58 rfl rfl (by first | exact c1 | exact hw0.1 | exact c11 | exact hwr1.1 | exact hwr2.1 | exact c12 | exact hwr3.1 | exact c13 | exact hw3.1 | exact c14 | exact hwr4.1 | exact hw4.1 | exact c15 | exact hwr5.1 | exact hw5.1 | fail "lk") rfl (Nat.le_refl _) (Nat.le_refl _) ?_
    refine w_addAllN hw5 hwr5.2.1 (by omega) (by decide) (fun hle2 h6 hw6 hF6 => ?_) (fun hlt => absurd hlt (by omega))
    have g6 : ∀ x, (x < 43 ∨ 48 ≤ x) → (x < o ∨ o + 2 ≤ x) → h6.2 x = h.2 x := fun x x1 x2 => (hF6.2 x (by omega)).trans (g5 x x1 x2)
    have z6 : h6.1 = h.1 := hF6.1.trans z5
    have c16 := (g6 1 (by omega) (by omega)).trans c1
    have hwr6 := hwr5.e (h' := h6) (fun x x1 x2 => hF6.2 x (by omega))
    refine z_pop 59 rfl rfl ?_
    refine z_push 60 (nI 1) rfl rfl rfl ?_
    refine z_iretb rfl (Nat.le_refl _) (Nat.le_refl _) (by first | decide | exact bI_01 _) ?_
    exact q1 _ (alW_s hy) h6 (hC.ow ho hw6 hwr6 g6 z6) hw6 g6 z6
set_option maxRecDepth 100000 in
theorem c_writtenApart {d : Nat} {h : mH} {A : Ab} {pad : Nat → Nat} {sp : Option Nat} {res wrk : Nat} {P U pt : Nat} {Q : mP} (hC : CI h A pad sp res wrk) (hA : AbW A) (hFN : ∀ x, fbN A.fbs 40 x ≤ 16) (hP : P < A.pgs.length) (hcl : pgC A.pgs P = true) (hU : U < A.pgs.length) (hclq : pgC A.pgs U = true) (hpt : pt < 1114112)  (q0 : alW (pgK A.pgs P) (pgE A.pgs P) (pgH A.pgs P) pt = alW (pgK A.pgs U) (pgE A.pgs U) (pgH A.pgs U) pt → ∀ h', CI h' A pad sp res wrk → (∀ x, (x < 43 ∨ 48 ≤ x) → (x < 11 ∨ 13 ≤ x) → (x < wrk ∨ wrk + 2 ≤ x) → h'.2 x = h.2 x) → h'.1 = h.1 → Q (some (.int (nI 0))) h') (q1 : ¬ alW (pgK A.pgs P) (pgE A.pgs P) (pgH A.pgs P) pt = alW (pgK A.pgs U) (pgE A.pgs U) (pgH A.pgs U) pt → ∀ h', CI h' A pad sp res wrk → (∀ x, (x < 43 ∨ 48 ≤ x) → (x < 11 ∨ 13 ≤ x) → (x < wrk ∨ wrk + 2 ≤ x) → h'.2 x = h.2 x) → h'.1 = h.1 → Q (some (.int (nI 1))) h') : mWP (d + 9) 166 [.ref 1, .ref (pad P), .ref (pad U), .int (nI pt)] h Q := by
  obtain ⟨c1, cr, cp, cb, cu, cq, cs, ck, cru, cm⟩ := id hC
  obtain ⟨cp0, ⟨pf, cp1, cp2⟩, cp3, cp4, cp5⟩ := id cp
  obtain ⟨lb, hlb⟩ := cs.2.1
  refine z_in [some (.ref 1), some (.ref (pad P)), some (.ref (pad U)), some (.int (nI pt)), none, none] (by rfl) rfl rfl rfl ?_
  refine z_aload 1 rfl rfl rfl ?_
  refine z_aload 2 rfl rfl rfl ?_
  refine z_iload 3 rfl rfl rfl ?_
  refine z_aload 4 rfl rfl rfl ?_
  refine z_get 7 rfl rfl (by first | exact c1 | exact hC2.1 | exact hC3.1 | exact hw2b.1 | exact hw3.1 | fail "lk") rfl ?_
  refine z_cv3 10 rfl rfl (by first | exact c1 | exact hC2.1 | exact hC3.1 | exact hw2b.1 | exact hw3.1 | fail "lk") rfl (Nat.le_refl _) (Nat.le_refl _) ?_
  refine c_writeAlone hC hA hFN hP hcl hpt (Or.inr ⟨rfl, rfl⟩) hlb (fun ha h2 hC2 hw2 hF2 hs2 => ?_) (fun l1 ha h2 hC2 hw2 hF2 hs2 => ?_)
  · skip
    refine z_istore 12 rfl rfl rfl rfl ?_
    refine z_aload 13 rfl rfl rfl ?_
    refine z_aload 14 rfl rfl rfl ?_
    refine z_iload 15 rfl rfl rfl ?_
    refine z_aload 16 rfl rfl rfl ?_
    refine z_get 19 rfl rfl (by first | exact c1 | exact hC2.1 | exact hC3.1 | exact hw2b.1 | exact hw3.1 | fail "lk") rfl ?_
    refine z_cv3 22 rfl rfl (by first | exact c1 | exact hC2.1 | exact hC3.1 | exact hw2b.1 | exact hw3.1 | fail "lk") rfl (Nat.le_refl _) (Nat.le_refl _) ?_
    obtain ⟨lw, hlw⟩ := hC2.2.2.2.2.2.2.1.1
    refine c_writeAlone hC2 hA hFN hU hclq hpt (Or.inl ⟨rfl, rfl⟩) hlw (fun hb h3 hC3 hw3 hF3 hs3 => ?_) (fun l2 hb h3 hC3 hw3 hF3 hs3 => ?_)
    · have hw2b := hw2.e (h' := h3) (fun x x1 x2 => hF3 x (by omega) (by omega))
      refine z_istore 24 rfl rfl rfl rfl ?_
      refine z_iload 26 rfl rfl rfl ?_
      refine z_iload 28 rfl rfl rfl ?_
      refine z_nne 31 rfl rfl (by omega) (by omega) (fun h9 => absurd h9 (by omega)) (fun _ => ?_)
      refine z_aload 32 rfl rfl rfl ?_
      refine z_get 35 rfl rfl (by first | exact c1 | exact hC2.1 | exact hC3.1 | exact hw2b.1 | exact hw3.1 | fail "lk") rfl ?_
      refine z_aload 36 rfl rfl rfl ?_
      refine z_get 39 rfl rfl (by first | exact c1 | exact hC2.1 | exact hC3.1 | exact hw2b.1 | exact hw3.1 | fail "lk") rfl ?_
      refine z_cv1 42 rfl rfl (by first | exact c1 | exact hC2.1 | exact hC3.1 | exact hw2b.1 | exact hw3.1 | fail "lk") rfl (Nat.le_refl _) (Nat.le_refl _) ?_
      refine w_isSame hw2b hw3 (by decide) (by decide) (fun j => by rw [List.getD_nil]; decide) (fun j => by rw [List.getD_nil]; decide) ?_
      first | refine z_bne 45 rfl rfl (fun hc42 => ?_) (fun hc42 => ?_)
      · refine z_push 50 (nI 0) rfl rfl rfl ?_
        refine z_iretb rfl (Nat.le_refl _) (Nat.le_refl _) (by first | decide | exact bI_01 _) ?_
        exact q0 (by rw [ha, hb]) h3 hC3 (fun x x1 x2 x3 => (hF3 x x1 x3).trans (hF2 x x1 x2)) (hs3.trans hs2)
      · refine z_push 46 (nI 1) rfl rfl rfl ?_
        refine z_goto rfl ?_
        refine z_iretb rfl (Nat.le_refl _) (Nat.le_refl _) (by first | decide | exact bI_01 _) ?_
        exact absurd rfl (of_decide_eq_false hc42)
    · have hw2b := hw2.e (h' := h3) (fun x x1 x2 => hF3 x (by omega) (by omega))
      refine z_istore 24 rfl rfl rfl rfl ?_
      refine z_iload 26 rfl rfl rfl ?_
      refine z_iload 28 rfl rfl rfl ?_
      refine z_nne 31 rfl rfl (by omega) (by omega) (fun _ => ?_) (fun h9 => absurd h9 (by omega))
      refine z_push 46 (nI 1) rfl rfl rfl ?_
      refine z_goto rfl ?_
      refine z_iretb rfl (Nat.le_refl _) (Nat.le_refl _) (by first | decide | exact bI_01 _) ?_
      exact q1 (fun h9 => by rw [ha, hb] at h9; cases h9) h3 hC3 (fun x x1 x2 x3 => (hF3 x x1 x3).trans (hF2 x x1 x2)) (hs3.trans hs2)
  · skip
    refine z_istore 12 rfl rfl rfl rfl ?_
    refine z_aload 13 rfl rfl rfl ?_
    refine z_aload 14 rfl rfl rfl ?_
    refine z_iload 15 rfl rfl rfl ?_
    refine z_aload 16 rfl rfl rfl ?_
    refine z_get 19 rfl rfl (by first | exact c1 | exact hC2.1 | exact hC3.1 | exact hw2b.1 | exact hw3.1 | fail "lk") rfl ?_
    refine z_cv3 22 rfl rfl (by first | exact c1 | exact hC2.1 | exact hC3.1 | exact hw2b.1 | exact hw3.1 | fail "lk") rfl (Nat.le_refl _) (Nat.le_refl _) ?_
    obtain ⟨lw, hlw⟩ := hC2.2.2.2.2.2.2.1.1
    refine c_writeAlone hC2 hA hFN hU hclq hpt (Or.inl ⟨rfl, rfl⟩) hlw (fun hb h3 hC3 hw3 hF3 hs3 => ?_) (fun l2 hb h3 hC3 hw3 hF3 hs3 => ?_)
    · have hw2b := hw2.e (h' := h3) (fun x x1 x2 => hF3 x (by omega) (by omega))
      refine z_istore 24 rfl rfl rfl rfl ?_
      refine z_iload 26 rfl rfl rfl ?_
      refine z_iload 28 rfl rfl rfl ?_
      refine z_nne 31 rfl rfl (by omega) (by omega) (fun _ => ?_) (fun h9 => absurd h9 (by omega))
      refine z_push 46 (nI 1) rfl rfl rfl ?_
      refine z_goto rfl ?_
      refine z_iretb rfl (Nat.le_refl _) (Nat.le_refl _) (by first | decide | exact bI_01 _) ?_
      exact q1 (fun h9 => by rw [ha, hb] at h9; cases h9) h3 hC3 (fun x x1 x2 x3 => (hF3 x x1 x3).trans (hF2 x x1 x2)) (hs3.trans hs2)
    · have hw2b := hw2.e (h' := h3) (fun x x1 x2 => hF3 x (by omega) (by omega))
      refine z_istore 24 rfl rfl rfl rfl ?_
      refine z_iload 26 rfl rfl rfl ?_
      refine z_iload 28 rfl rfl rfl ?_
      refine z_nne 31 rfl rfl (by omega) (by omega) (fun h9 => absurd h9 (by omega)) (fun _ => ?_)
      refine z_aload 32 rfl rfl rfl ?_
      refine z_get 35 rfl rfl (by first | exact c1 | exact hC2.1 | exact hC3.1 | exact hw2b.1 | exact hw3.1 | fail "lk") rfl ?_
      refine z_aload 36 rfl rfl rfl ?_
      refine z_get 39 rfl rfl (by first | exact c1 | exact hC2.1 | exact hC3.1 | exact hw2b.1 | exact hw3.1 | fail "lk") rfl ?_
      refine z_cv1 42 rfl rfl (by first | exact c1 | exact hC2.1 | exact hC3.1 | exact hw2b.1 | exact hw3.1 | fail "lk") rfl (Nat.le_refl _) (Nat.le_refl _) ?_
      refine w_isSame hw2b hw3 (by decide) (by decide) (fun j => Nat.lt_trans (getD_all (alW_v (hA.1 P hP) ha) (by decide) j) (by decide)) (fun j => Nat.lt_trans (getD_all (alW_v (hA.1 U hU) hb) (by decide) j) (by decide)) ?_
      first | refine z_bne 45 rfl rfl (fun hc42 => ?_) (fun hc42 => ?_)
      · refine z_push 50 (nI 0) rfl rfl rfl ?_
        refine z_iretb rfl (Nat.le_refl _) (Nat.le_refl _) (by first | decide | exact bI_01 _) ?_
        exact q0 (by rw [ha, hb, of_decide_eq_true hc42]) h3 hC3 (fun x x1 x2 x3 => (hF3 x x1 x3).trans (hF2 x x1 x2)) (hs3.trans hs2)
      · refine z_push 46 (nI 1) rfl rfl rfl ?_
        refine z_goto rfl ?_
        refine z_iretb rfl (Nat.le_refl _) (Nat.le_refl _) (by first | decide | exact bI_01 _) ?_
        exact q1 (fun h9 => by rw [ha, hb] at h9; exact of_decide_eq_false hc42 (Option.some.inj h9)) h3 hC3 (fun x x1 x2 x3 => (hF3 x x1 x3).trans (hF2 x x1 x2)) (hs3.trans hs2)
theorem ffd_sk {D : Nat → Bool} {N : Nat} : ∀ (k v : Nat), (∀ x, v ≤ x → x < v + k → D x = false) → ffd D (N - v) v = ffd D (N - (v + k)) (v + k)
  | 0, v, h => rfl
  | k + 1, v, h => by
    by_cases hv : v < N
    · rw [ffd_no hv (h v (Nat.le_refl _) (by omega)), ffd_sk k (v + 1) (fun x x1 x2 => h x (by omega) (by omega)), show v + 1 + k = v + (k + 1) by omega]
    · rw [show N - v = 0 by omega, show N - (v + (k + 1)) = 0 by omega]; rfl
theorem ffd_an {D : Nat → Bool} (h : ∀ x, D x = false) : ∀ (m i : Nat), ffd D m i = none
  | 0, i => rfl
  | m + 1, i => by
    have h1 := ffd_no (P := D) (n := i + (m + 1)) (i := i) (by omega) (h i)
    rw [show i + (m + 1) - i = m + 1 by omega, show i + (m + 1) - (i + 1) = m by omega] at h1
    rw [h1]; exact ffd_an h m (i + 1)
theorem dfP_same {A : Ab} {P U : Nat} (h1 : pgK A.pgs P = pgK A.pgs U) (h2 : pgE A.pgs P = pgE A.pgs U) (h3 : pgH A.pgs P = pgH A.pgs U) (v : Nat) : dfP A P U v = false := by
  rw [dfP, h1, h2, h3, decide_eq_true rfl]; simp
theorem dfP_cv {A : Ab} {P U v : Nat} (h1 : cvP (pgK A.pgs P) (pgE A.pgs P) v = false) (h2 : cvP (pgK A.pgs U) (pgE A.pgs U) v = false) : dfP A P U v = false := by
  unfold cvP at h1 h2
  unfold dfP
  cases hn : nPt v with
  | false => rfl
  | true =>
    rw [hn, Bool.true_and] at h1 h2
    have e1 : alW (pgK A.pgs P) (pgE A.pgs P) (pgH A.pgs P) v = none := by
      unfold alW
      cases hf : fnd (pgK A.pgs P) (pgE A.pgs P) v with
      | none => rfl
      | some x => rw [hf] at h1; cases h1
    have e2 : alW (pgK A.pgs U) (pgE A.pgs U) (pgH A.pgs U) v = none := by
      unfold alW
      cases hf : fnd (pgK A.pgs U) (pgE A.pgs U) v with
      | none => rfl
      | some x => rw [hf] at h2; cases h2
    rw [e1, e2, decide_eq_true rfl]; rfl
theorem PgC.nil {h : mH} {p K : Nat} {E : List En} {H : List Sh} (a : PgC h p K E H) (hK : K ≠ 0) : E = [] ∧ H = [] := by
  rcases a with ⟨e, _⟩ | ⟨_, _, e3, e4, _⟩
  · exact absurd e hK
  · exact ⟨e3, e4⟩
set_option maxRecDepth 100000 in
theorem c_differ {d : Nat} {h0 : mH} {A : Ab} {pad : Nat → Nat} {sp : Option Nat} {res wrk : Nat} {p q9 f9 : Int32} {Q : mP} (hC : CI h0 A pad sp res wrk) (hA : AbW A) (hFN : ∀ x, fbN A.fbs 40 x ≤ 16)  (q : ∀ h', CInv h' (sp_differ A p q9 f9).2 → KpX h0 h' → Q (some (.int (sp_differ A p q9 f9).1)) h') : mWP (d + 10) 131 [.ref 1, .int p, .int q9, .int f9] h0 Q := by
  obtain ⟨c1, cr, cp, cb, cu, cq, cs, ck, cru, cm⟩ := id hC
  obtain ⟨cp0, ⟨pf, cp1, cp2⟩, cp3, cp4, cp5⟩ := id cp
  obtain ⟨hPB, hKb, hGd, hbb, hub, hsg1, hsg2, hFW, hFd⟩ := id hA
  have cr9 : 7 ≤ wrk ∧ wrk ≤ 9 := by omega
  refine z_in [some (.ref 1), some (.int p), some (.int q9), some (.int f9), none, none, none, none, none] (by rfl) rfl rfl rfl ?_
  refine z_aload 1 rfl rfl rfl ?_
  refine z_iload 2 rfl rfl rfl ?_
  refine z_iload 3 rfl rfl rfl ?_
  refine z_cv2 6 rfl rfl (by first | exact c1 | exact cp1 | exact hqP | exact hqU | fail "lk") rfl (Nat.le_refl _) (Nat.le_refl _) ?_
  refine c_bothClosedFinding hC ?_
  refine z_istore 8 rfl rfl rfl rfl ?_
  refine z_iload 10 rfl rfl rfl ?_
  first | refine z_ieq 13 rfl rfl (fun hc10 => ?_) (fun hc10 => ?_)
  · refine z_iload 21 rfl rfl rfl ?_
    first | refine z_jlt 24 rfl rfl (fun hc21 => ?_) (fun hc21 => ?_)
    · refine z_aload 32 rfl rfl rfl ?_
      refine z_push 33 (-1) rfl rfl rfl ?_
      refine z_cv1 36 rfl rfl (by first | exact c1 | exact cp1 | exact hqP | exact hqU | fail "lk") rfl (Nat.le_refl _) (Nat.le_refl _) ?_
      refine c_ansN hC (by decide) (fun h1 hC1 hX1 => ?_)
      refine z_ireti rfl (Nat.le_refl _) (Nat.le_refl _) ?_
      have hb9 := bf_0 hc10
      have e9 : sp_differ A p q9 f9 = (-1, A.tell) := by
        rw [sp_differ, if_pos hb9.1, if_pos hb9.2, if_neg (by omega)]
      rw [e9] at q
      exact q h1 hC1.inv hX1
    · refine z_iload 25 rfl rfl rfl ?_
      refine z_push 28 (nI 1114111) rfl rfl rfl ?_
      refine z_kle 31 rfl rfl (by omega) (fun hc28 => ?_) (fun hc28 => ?_)
      · obtain ⟨⟨hr, hrq⟩, hcl, hclq⟩ := bf_0 hc10
        obtain ⟨P, hP, rfl, hp1, hp2⟩ := ixP cp0 (inR_t hr)
        obtain ⟨U, hU, rfl, hu1, hu2⟩ := ixP cp0 (inR_t hrq)
        rw [hp2] at hcl
        rw [hu2] at hclq
        obtain ⟨F, hF, rfl, hf1, hf2⟩ := ix_of (x := f9) (n := 1114112) (by omega)
        have hf8 : 0 ≤ (nI F).toInt ∧ (nI F).toInt ≤ 1114111 := by omega
        have hPC0 : PgC h0 (pad P) (pgK A.pgs P) (pgE A.pgs P) (pgH A.pgs P) := PgR.cl (by rw [← hcl]; exact (cp3 P hP).2.2)
        have hPU0 : PgC h0 (pad U) (pgK A.pgs U) (pgE A.pgs U) (pgH A.pgs U) := PgR.cl (by rw [← hclq]; exact (cp3 U hU).2.2)
        have hpp := (cp3 P hP).1
        have hpu := (cp3 U hU).1
        obtain ⟨mP, rP, hqP, _, _⟩ := hPC0.rc (fun k hk => ((hPB P hP).2.2.2 k hk).2.2.1)
        obtain ⟨mU, rU, hqU, _, _⟩ := hPU0.rc (fun k hk => ((hPB U hU).2.2.2 k hk).2.2.1)
        have hk4 := hKb P hP
        have hk5 := hKb U hU
        refine z_aload 38 rfl rfl rfl ?_
        refine z_get 41 rfl rfl (by first | exact c1 | exact cp1 | exact hqP | exact hqU | fail "lk") rfl ?_
        refine z_iload 42 rfl rfl rfl ?_
        refine z_qld 43 rfl rfl (by first | exact c1 | exact cp1 | exact hqP | exact hqU | fail "lk") (by decide) rfl (by omega) (by omega) (cp2 P hP) ?_
        refine z_astore 45 rfl rfl rfl rfl ?_
        refine z_aload 46 rfl rfl rfl ?_
        refine z_get 49 rfl rfl (by first | exact c1 | exact cp1 | exact hqP | exact hqU | fail "lk") rfl ?_
        refine z_iload 50 rfl rfl rfl ?_
        refine z_qld 51 rfl rfl (by first | exact c1 | exact cp1 | exact hqP | exact hqU | fail "lk") (by decide) rfl (by omega) (by omega) (cp2 U hU) ?_
        refine z_astore 53 rfl rfl rfl rfl ?_
        refine z_iload 54 rfl rfl rfl ?_
        refine z_iload 55 rfl rfl rfl ?_
        refine z_neq 58 rfl rfl (by omega) (by omega) (fun hc55 => ?_) (fun hc55 => ?_)
        · refine z_aload 80 rfl rfl rfl ?_
          refine z_push 82 (-2) rfl rfl rfl ?_
          refine z_cv1 85 rfl rfl (by first | exact c1 | exact cp1 | exact hqP | exact hqU | fail "lk") rfl (Nat.le_refl _) (Nat.le_refl _) ?_
          refine c_ansN hC (by decide) (fun h1 hC1 hX1 => ?_)
          refine z_ireti rfl (Nat.le_refl _) (Nat.le_refl _) ?_
          have e9 : sp_differ A (nI P) (nI U) (nI F) = (-2, A.tell) := by
            rw [sp_differ, if_pos ⟨hr, hrq⟩, hp2, hu2, if_pos ⟨hcl, hclq⟩, if_pos hf8, hf2, ffd_an (fun v => by subst hc55; exact dfP_same rfl rfl rfl v)]
          rw [e9] at q
          exact q h1 hC1.inv hX1
        · refine z_aload 60 rfl rfl rfl ?_
          refine z_get 63 rfl rfl (by first | exact c1 | exact cp1 | exact hqP | exact hqU | fail "lk") rfl ?_
          refine z_aload 65 rfl rfl rfl ?_
          refine z_get 68 rfl rfl (by first | exact c1 | exact cp1 | exact hqP | exact hqU | fail "lk") rfl ?_
          refine z_nne 71 rfl rfl (by omega) (by omega) (fun hc68 => ?_) (fun hc68 => ?_)
          · obtain ⟨N, hN0, hN1, hN2, hN3⟩ := minN (F + 4096) 1114112
            have loop : ∀ m9 pt h, N < pt + m9 → pt ≤ 1114113 → ffd (dfP A P U) (N - F) F = ffd (dfP A P U) (N - pt) pt → CI h A pad sp res wrk → KpX h0 h → (∀ x, 143 ≤ x → h.2 x = h0.2 x) → mZ (d + 9) tk_131 0 0 Q 102 [some (.ref 1), some (.int (nI P)), some (.int (nI U)), some (.int (nI F)), some (.int (bfI A.pgs (nI P) (nI U))), some (.ref (pad P)), some (.ref (pad U)), some (.int (nI N)), some (.int (nI pt))] [] h 0 0 := by
              intro m9
              induction m9 with
              | zero =>
                intro pt h h1 h2 hD hC hK hK2
                refine z_iload 104 rfl rfl rfl ?_
                refine z_iload 106 rfl rfl rfl ?_
                refine z_nge 109 rfl rfl (by omega) (by omega) (fun _ => ?_) (fun h9 => absurd h9 (by omega))
                refine z_aload 163 rfl rfl rfl ?_
                refine z_push 165 (-2) rfl rfl rfl ?_
                refine z_cv1 168 rfl rfl (by first | exact hC.1 | exact hqP | exact hqU | fail "lk") rfl (Nat.le_refl _) (Nat.le_refl _) ?_
                refine c_ansN hC (by decide) (fun h1 hC1 hX1 => ?_)
                refine z_ireti rfl (Nat.le_refl _) (Nat.le_refl _) ?_
                rw [show N - pt = 0 by omega] at hD
                have e9 : sp_differ A (nI P) (nI U) (nI F) = (-2, A.tell) := by
                  rw [sp_differ, if_pos ⟨hr, hrq⟩, hp2, hu2, if_pos ⟨hcl, hclq⟩, if_pos hf8, hf2, hN0, hD]
                  rfl
                rw [e9] at q
                exact q h1 hC1.inv (hK.trans hX1)
              | succ m9 ih =>
                intro pt h h1 h2 hD hC hK hK2
                have hPC := hPC0.e (h' := h) (fun x x1 x2 => hK2 x (by omega))
                have hPU := hPU0.e (h' := h) (fun x x1 x2 => hK2 x (by omega))
                refine z_iload 104 rfl rfl rfl ?_
                refine z_iload 106 rfl rfl rfl ?_
                refine z_nge 109 rfl rfl (by omega) (by omega) (fun hc106 => ?_) (fun hc106 => ?_)
                · refine z_aload 163 rfl rfl rfl ?_
                  refine z_push 165 (-2) rfl rfl rfl ?_
                  refine z_cv1 168 rfl rfl (by first | exact hC.1 | exact hqP | exact hqU | fail "lk") rfl (Nat.le_refl _) (Nat.le_refl _) ?_
                  refine c_ansN hC (by decide) (fun h1 hC1 hX1 => ?_)
                  refine z_ireti rfl (Nat.le_refl _) (Nat.le_refl _) ?_
                  rw [show N - pt = 0 by omega] at hD
                  have e9 : sp_differ A (nI P) (nI U) (nI F) = (-2, A.tell) := by
                    rw [sp_differ, if_pos ⟨hr, hrq⟩, hp2, hu2, if_pos ⟨hcl, hclq⟩, if_pos hf8, hf2, hN0, hD]
                    rfl
                  rw [e9] at q
                  exact q h1 hC1.inv (hK.trans hX1)
                · obtain ⟨mP, rP, hqP, _, _⟩ := hPC.rc (fun k hk => ((hPB P hP).2.2.2 k hk).2.2.1)
                  obtain ⟨mU, rU, hqU, _, _⟩ := hPU.rc (fun k hk => ((hPB U hU).2.2.2 k hk).2.2.1)
                  refine z_iload 111 rfl rfl rfl ?_
                  refine z_aload 113 rfl rfl rfl ?_
                  refine z_iload 115 rfl rfl rfl ?_
                  refine z_cv1 118 rfl rfl (by first | exact hC.1 | exact hqP | exact hqU | fail "lk") rfl (Nat.le_refl _) (Nat.le_refl _) ?_
                  refine c_pgFrom hPC (hPB P hP) (by omega) (fun y1 hy1 hy2 hy3 hy4 => ?_)
                  refine z_aload 120 rfl rfl rfl ?_
                  refine z_iload 122 rfl rfl rfl ?_
                  refine z_cv1 125 rfl rfl (by first | exact hC.1 | exact hqP | exact hqU | fail "lk") rfl (Nat.le_refl _) (Nat.le_refl _) ?_
                  refine c_pgFrom hPU (hPB U hU) (by omega) (fun y2 hz1 hz2 hz3 hz4 => ?_)
                  obtain ⟨y, hyy, hya, hyb, hyc⟩ := minN y1 y2
                  have hDy : ffd (dfP A P U) (N - F) F = ffd (dfP A P U) (N - y) y := by
                    rw [hD, ffd_sk (y - pt) pt (fun v v1 v2 => dfP_cv (hy4 v v1 (by omega)) (hz4 v v1 (by omega))), show pt + (y - pt) = y by omega]
                  refine z_min 128 _ rfl rfl rfl (Nat.le_refl _) (Nat.le_refl _) (show _ = nI y from (zminN (by omega) (by omega)).trans (by rw [hyy])) ?_
                  refine z_max 131 _ rfl rfl rfl (Nat.le_refl _) (Nat.le_refl _) (show _ = nI y from (zmaxN (by omega) (by omega)).trans (by rw [Nat.max_eq_right (show pt ≤ y by omega)])) ?_
                  refine z_istore 133 rfl rfl rfl rfl ?_
                  refine z_iload 135 rfl rfl rfl ?_
                  refine z_iload 137 rfl rfl rfl ?_
                  refine z_nge 140 rfl rfl (by omega) (by omega) (fun hc137 => ?_) (fun hc137 => ?_)
                  · refine z_iinc 159 _ rfl rfl rfl rfl (by first | with_reducible exact zi_1 _ | rfl) ?_
                    refine z_goto rfl ?_
                    refine ih (y + 1) h (by omega) (by omega) ?_ hC hK hK2
                    rw [hDy, show N - y = 0 by omega, show N - (y + 1) = 0 by omega]
                    rfl
                  · refine z_aload 141 rfl rfl rfl ?_
                    refine z_aload 143 rfl rfl rfl ?_
                    refine z_aload 145 rfl rfl rfl ?_
                    refine z_iload 147 rfl rfl rfl ?_
                    refine z_cv3 150 rfl rfl (by first | exact hC.1 | exact hqP | exact hqU | fail "lk") rfl (Nat.le_refl _) (Nat.le_refl _) ?_
                    have hyn : nPt y = true := by rcases hyc with e | e; (rw [e]; exact hy3 (by omega)); (rw [e]; exact hz3 (by omega))
                    refine c_writtenApart hC hA hFN hP hcl hU hclq (by omega) (fun hab h2 hC2 hF2 hs2 => ?_) (fun hab h2 hC2 hF2 hs2 => ?_)
                    · skip
                      refine z_zeq 153 rfl rfl (by omega) (fun _ => ?_) (fun h9 => absurd h9 (by omega))
                      refine z_iinc 159 _ rfl rfl rfl rfl (by first | with_reducible exact zi_1 _ | rfl) ?_
                      refine z_goto rfl ?_
                      refine ih (y + 1) h2 (by omega) (by omega) ?_ hC2 (hK.trans ⟨fun x hx => hF2 x (by omega) (by omega) (by omega), by rw [hs2]; exact Nat.le_refl _⟩) (fun x hx => (hF2 x (by omega) (by omega) (by omega)).trans (hK2 x hx))
                      rw [hDy, ffd_no (by omega) (by rw [dfP, hab, decide_eq_true rfl]; simp)]
                    · skip
                      refine z_zeq 153 rfl rfl (by omega) (fun h9 => absurd h9 (by omega)) (fun _ => ?_)
                      refine z_iload 155 rfl rfl rfl ?_
                      refine z_ireti rfl (Nat.le_refl _) (Nat.le_refl _) ?_
                      have e9 : sp_differ A (nI P) (nI U) (nI F) = (nI y, A) := by
                        rw [sp_differ, if_pos ⟨hr, hrq⟩, hp2, hu2, if_pos ⟨hcl, hclq⟩, if_pos hf8, hf2, hN0, hDy, ffd_yes (by omega) (by rw [dfP, hyn, decide_eq_false hab]; rfl)]
                      rw [e9] at q
                      exact q h2 hC2.inv (hK.trans ⟨fun x hx => hF2 x (by omega) (by omega) (by omega), by rw [hs2]; exact Nat.le_refl _⟩)
            refine z_iload 87 rfl rfl rfl ?_
            refine z_push 90 (nI 4096) rfl rfl rfl ?_
            refine z_bop 91 _ rfl rfl (by first | with_reducible exact zb_0 _ _ | exact zd_0 _ _) ?_
            refine z_push 94 (nI 1114112) rfl rfl rfl ?_
            refine z_min 97 _ rfl rfl rfl (Nat.le_refl _) (Nat.le_refl _) (show _ = nI N from (zminN (by omega) (by omega)).trans (by rw [hN0])) ?_
            refine z_istore 99 rfl rfl rfl rfl ?_
            refine z_iload 100 rfl rfl rfl ?_
            refine z_istore 102 rfl rfl rfl rfl ?_
            exact loop (N + 1) F h0 (by omega) (by omega) rfl hC KpX.rfl (fun _ _ => rfl)
          · refine z_aload 73 rfl rfl rfl ?_
            refine z_get 76 rfl rfl (by first | exact c1 | exact cp1 | exact hqP | exact hqU | fail "lk") rfl ?_
            first | refine z_zeq 79 rfl rfl (by omega) (fun hc76 => ?_) (fun hc76 => ?_)
            · obtain ⟨N, hN0, hN1, hN2, hN3⟩ := minN (F + 4096) 1114112
              have loop : ∀ m9 pt h, N < pt + m9 → pt ≤ 1114113 → ffd (dfP A P U) (N - F) F = ffd (dfP A P U) (N - pt) pt → CI h A pad sp res wrk → KpX h0 h → (∀ x, 143 ≤ x → h.2 x = h0.2 x) → mZ (d + 9) tk_131 0 0 Q 102 [some (.ref 1), some (.int (nI P)), some (.int (nI U)), some (.int (nI F)), some (.int (bfI A.pgs (nI P) (nI U))), some (.ref (pad P)), some (.ref (pad U)), some (.int (nI N)), some (.int (nI pt))] [] h 0 0 := by
                intro m9
                induction m9 with
                | zero =>
                  intro pt h h1 h2 hD hC hK hK2
                  refine z_iload 104 rfl rfl rfl ?_
                  refine z_iload 106 rfl rfl rfl ?_
                  refine z_nge 109 rfl rfl (by omega) (by omega) (fun _ => ?_) (fun h9 => absurd h9 (by omega))
                  refine z_aload 163 rfl rfl rfl ?_
                  refine z_push 165 (-2) rfl rfl rfl ?_
                  refine z_cv1 168 rfl rfl (by first | exact hC.1 | exact hqP | exact hqU | fail "lk") rfl (Nat.le_refl _) (Nat.le_refl _) ?_
                  refine c_ansN hC (by decide) (fun h1 hC1 hX1 => ?_)
                  refine z_ireti rfl (Nat.le_refl _) (Nat.le_refl _) ?_
                  rw [show N - pt = 0 by omega] at hD
                  have e9 : sp_differ A (nI P) (nI U) (nI F) = (-2, A.tell) := by
                    rw [sp_differ, if_pos ⟨hr, hrq⟩, hp2, hu2, if_pos ⟨hcl, hclq⟩, if_pos hf8, hf2, hN0, hD]
                    rfl
                  rw [e9] at q
                  exact q h1 hC1.inv (hK.trans hX1)
                | succ m9 ih =>
                  intro pt h h1 h2 hD hC hK hK2
                  have hPC := hPC0.e (h' := h) (fun x x1 x2 => hK2 x (by omega))
                  have hPU := hPU0.e (h' := h) (fun x x1 x2 => hK2 x (by omega))
                  refine z_iload 104 rfl rfl rfl ?_
                  refine z_iload 106 rfl rfl rfl ?_
                  refine z_nge 109 rfl rfl (by omega) (by omega) (fun hc106 => ?_) (fun hc106 => ?_)
                  · refine z_aload 163 rfl rfl rfl ?_
                    refine z_push 165 (-2) rfl rfl rfl ?_
                    refine z_cv1 168 rfl rfl (by first | exact hC.1 | exact hqP | exact hqU | fail "lk") rfl (Nat.le_refl _) (Nat.le_refl _) ?_
                    refine c_ansN hC (by decide) (fun h1 hC1 hX1 => ?_)
                    refine z_ireti rfl (Nat.le_refl _) (Nat.le_refl _) ?_
                    rw [show N - pt = 0 by omega] at hD
                    have e9 : sp_differ A (nI P) (nI U) (nI F) = (-2, A.tell) := by
                      rw [sp_differ, if_pos ⟨hr, hrq⟩, hp2, hu2, if_pos ⟨hcl, hclq⟩, if_pos hf8, hf2, hN0, hD]
                      rfl
                    rw [e9] at q
                    exact q h1 hC1.inv (hK.trans hX1)
                  · obtain ⟨mP, rP, hqP, _, _⟩ := hPC.rc (fun k hk => ((hPB P hP).2.2.2 k hk).2.2.1)
                    obtain ⟨mU, rU, hqU, _, _⟩ := hPU.rc (fun k hk => ((hPB U hU).2.2.2 k hk).2.2.1)
                    refine z_iload 111 rfl rfl rfl ?_
                    refine z_aload 113 rfl rfl rfl ?_
                    refine z_iload 115 rfl rfl rfl ?_
                    refine z_cv1 118 rfl rfl (by first | exact hC.1 | exact hqP | exact hqU | fail "lk") rfl (Nat.le_refl _) (Nat.le_refl _) ?_
                    refine c_pgFrom hPC (hPB P hP) (by omega) (fun y1 hy1 hy2 hy3 hy4 => ?_)
                    refine z_aload 120 rfl rfl rfl ?_
                    refine z_iload 122 rfl rfl rfl ?_
                    refine z_cv1 125 rfl rfl (by first | exact hC.1 | exact hqP | exact hqU | fail "lk") rfl (Nat.le_refl _) (Nat.le_refl _) ?_
                    refine c_pgFrom hPU (hPB U hU) (by omega) (fun y2 hz1 hz2 hz3 hz4 => ?_)
                    obtain ⟨y, hyy, hya, hyb, hyc⟩ := minN y1 y2
                    have hDy : ffd (dfP A P U) (N - F) F = ffd (dfP A P U) (N - y) y := by
                      rw [hD, ffd_sk (y - pt) pt (fun v v1 v2 => dfP_cv (hy4 v v1 (by omega)) (hz4 v v1 (by omega))), show pt + (y - pt) = y by omega]
                    refine z_min 128 _ rfl rfl rfl (Nat.le_refl _) (Nat.le_refl _) (show _ = nI y from (zminN (by omega) (by omega)).trans (by rw [hyy])) ?_
                    refine z_max 131 _ rfl rfl rfl (Nat.le_refl _) (Nat.le_refl _) (show _ = nI y from (zmaxN (by omega) (by omega)).trans (by rw [Nat.max_eq_right (show pt ≤ y by omega)])) ?_
                    refine z_istore 133 rfl rfl rfl rfl ?_
                    refine z_iload 135 rfl rfl rfl ?_
                    refine z_iload 137 rfl rfl rfl ?_
                    refine z_nge 140 rfl rfl (by omega) (by omega) (fun hc137 => ?_) (fun hc137 => ?_)
                    · refine z_iinc 159 _ rfl rfl rfl rfl (by first | with_reducible exact zi_1 _ | rfl) ?_
                      refine z_goto rfl ?_
                      refine ih (y + 1) h (by omega) (by omega) ?_ hC hK hK2
                      rw [hDy, show N - y = 0 by omega, show N - (y + 1) = 0 by omega]
                      rfl
                    · refine z_aload 141 rfl rfl rfl ?_
                      refine z_aload 143 rfl rfl rfl ?_
                      refine z_aload 145 rfl rfl rfl ?_
                      refine z_iload 147 rfl rfl rfl ?_
                      refine z_cv3 150 rfl rfl (by first | exact hC.1 | exact hqP | exact hqU | fail "lk") rfl (Nat.le_refl _) (Nat.le_refl _) ?_
                      have hyn : nPt y = true := by rcases hyc with e | e; (rw [e]; exact hy3 (by omega)); (rw [e]; exact hz3 (by omega))
                      refine c_writtenApart hC hA hFN hP hcl hU hclq (by omega) (fun hab h2 hC2 hF2 hs2 => ?_) (fun hab h2 hC2 hF2 hs2 => ?_)
                      · skip
                        refine z_zeq 153 rfl rfl (by omega) (fun _ => ?_) (fun h9 => absurd h9 (by omega))
                        refine z_iinc 159 _ rfl rfl rfl rfl (by first | with_reducible exact zi_1 _ | rfl) ?_
                        refine z_goto rfl ?_
                        refine ih (y + 1) h2 (by omega) (by omega) ?_ hC2 (hK.trans ⟨fun x hx => hF2 x (by omega) (by omega) (by omega), by rw [hs2]; exact Nat.le_refl _⟩) (fun x hx => (hF2 x (by omega) (by omega) (by omega)).trans (hK2 x hx))
                        rw [hDy, ffd_no (by omega) (by rw [dfP, hab, decide_eq_true rfl]; simp)]
                      · skip
                        refine z_zeq 153 rfl rfl (by omega) (fun h9 => absurd h9 (by omega)) (fun _ => ?_)
                        refine z_iload 155 rfl rfl rfl ?_
                        refine z_ireti rfl (Nat.le_refl _) (Nat.le_refl _) ?_
                        have e9 : sp_differ A (nI P) (nI U) (nI F) = (nI y, A) := by
                          rw [sp_differ, if_pos ⟨hr, hrq⟩, hp2, hu2, if_pos ⟨hcl, hclq⟩, if_pos hf8, hf2, hN0, hDy, ffd_yes (by omega) (by rw [dfP, hyn, decide_eq_false hab]; rfl)]
                        rw [e9] at q
                        exact q h2 hC2.inv (hK.trans ⟨fun x hx => hF2 x (by omega) (by omega) (by omega), by rw [hs2]; exact Nat.le_refl _⟩)
              refine z_iload 87 rfl rfl rfl ?_
              refine z_push 90 (nI 4096) rfl rfl rfl ?_
              refine z_bop 91 _ rfl rfl (by first | with_reducible exact zb_0 _ _ | exact zd_0 _ _) ?_
              refine z_push 94 (nI 1114112) rfl rfl rfl ?_
              refine z_min 97 _ rfl rfl rfl (Nat.le_refl _) (Nat.le_refl _) (show _ = nI N from (zminN (by omega) (by omega)).trans (by rw [hN0])) ?_
              refine z_istore 99 rfl rfl rfl rfl ?_
              refine z_iload 100 rfl rfl rfl ?_
              refine z_istore 102 rfl rfl rfl rfl ?_
              exact loop (N + 1) F h0 (by omega) (by omega) rfl hC KpX.rfl (fun _ _ => rfl)
            · refine z_aload 80 rfl rfl rfl ?_
              refine z_push 82 (-2) rfl rfl rfl ?_
              refine z_cv1 85 rfl rfl (by first | exact c1 | exact cp1 | exact hqP | exact hqU | fail "lk") rfl (Nat.le_refl _) (Nat.le_refl _) ?_
              refine c_ansN hC (by decide) (fun h1 hC1 hX1 => ?_)
              refine z_ireti rfl (Nat.le_refl _) (Nat.le_refl _) ?_
              have e9 : sp_differ A (nI P) (nI U) (nI F) = (-2, A.tell) := by
                rw [sp_differ, if_pos ⟨hr, hrq⟩, hp2, hu2, if_pos ⟨hcl, hclq⟩, if_pos hf8, hf2, ffd_an (fun v => dfP_same hc68 (by rw [(hPC0.nil hc76).1, (hPU0.nil (by rw [← hc68]; exact hc76)).1]) (by rw [(hPC0.nil hc76).2, (hPU0.nil (by rw [← hc68]; exact hc76)).2]) v)]
              rw [e9] at q
              exact q h1 hC1.inv hX1
      · refine z_aload 32 rfl rfl rfl ?_
        refine z_push 33 (-1) rfl rfl rfl ?_
        refine z_cv1 36 rfl rfl (by first | exact c1 | exact cp1 | exact hqP | exact hqU | fail "lk") rfl (Nat.le_refl _) (Nat.le_refl _) ?_
        refine c_ansN hC (by decide) (fun h1 hC1 hX1 => ?_)
        refine z_ireti rfl (Nat.le_refl _) (Nat.le_refl _) ?_
        have hb9 := bf_0 hc10
        have e9 : sp_differ A p q9 f9 = (-1, A.tell) := by
          rw [sp_differ, if_pos hb9.1, if_pos hb9.2, if_neg (by omega)]
        rw [e9] at q
        exact q h1 hC1.inv hX1
  · refine z_aload 14 rfl rfl rfl ?_
    refine z_iload 16 rfl rfl rfl ?_
    refine z_cv1 19 rfl rfl (by first | exact c1 | exact cp1 | exact hqP | exact hqU | fail "lk") rfl (Nat.le_refl _) (Nat.le_refl _) ?_
    refine c_ansN hC (bfI_n hc10) (fun h1 hC1 hX1 => ?_)
    refine z_ireti rfl (Nat.le_refl _) (Nat.le_refl _) ?_
    have e9 : sp_differ A p q9 f9 = (bfI A.pgs p q9, A.tell) := bf_sp hc10
    rw [e9] at q
    exact q h1 hC1.inv hX1
