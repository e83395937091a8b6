/-! the class: page, derive -/
set_option maxRecDepth 100000 in
theorem c_page {d : Nat} {h : mH} {A : Ab} {pad : Nat → Nat} {sp : Option Nat} {res wrk : Nat} {k : Int32} {Q : mP} (hC : CI h A pad sp res wrk) (h143 : 143 ≤ h.1) (hM : ∀ D m, A.mcs D = some m → m.1 < A.pgs.length)  (q : ∀ h', CInv h' (sp_page A k).2 → KpX h h' → Q (some (.int (sp_page A k).1)) h') : mWP (d + 3) 108 [.ref 1, .int k] h Q := by
  obtain ⟨c1, cr, cp, cb, cu, cq, cs, ck, cru, cm⟩ := id hC
  obtain ⟨cp0, ⟨pf, cp1, cp2⟩, cp3, cp4, cp5⟩ := id cp
  refine z_in [some (.ref 1), some (.int k)] (by rfl) rfl rfl rfl ?_
  refine z_iload 1 rfl rfl rfl ?_
  first | refine z_jlt 4 rfl rfl (fun hc1 => ?_) (fun hc1 => ?_)
  · refine z_aload 10 rfl rfl rfl ?_
    refine z_push 11 (-1) rfl rfl rfl ?_
    refine z_cv1 14 rfl rfl (by first | exact c1 | exact hC2.1 | fail "lk") rfl (by omega) (by omega) ?_
    refine c_ansN hC (by decide) (fun h1 hC1 hX1 => ?_)
    refine z_ireti rfl (by omega) (by omega) ?_
    have e9 : sp_page A k = (-1, A.tell) := if_neg (by omega)
    rw [e9] at q
    exact q h1 hC1.inv hX1
  · refine z_iload 5 rfl rfl rfl ?_
    refine z_push 6 (nI 3) rfl rfl rfl ?_
    refine z_kle 9 rfl rfl (by omega) (fun hc6 => ?_) (fun hc6 => ?_)
    · refine z_aload 16 rfl rfl rfl ?_
      refine z_get 19 rfl rfl (by first | exact c1 | exact hC2.1 | fail "lk") rfl ?_
      refine z_push 21 (nI 10) rfl rfl rfl ?_
      refine z_nlt 24 rfl rfl (by omega) (by omega) (fun hc21 => ?_) (fun hc21 => ?_)
      · obtain ⟨K, hK4, rfl, hk1, hk2⟩ := ix_of (x := k) (n := 4) (by omega)
        by_cases hK : K = 0
        · subst hK
          refine z_aload 32 rfl rfl rfl ?_
          refine z_newA 35 h.1 rfl rfl rfl (by omega) (by omega) ?_
          first | refine z_dup 36 rfl rfl ?_ | refine z_dupi 36 rfl rfl ?_
          refine z_iload 37 rfl rfl rfl ?_
          refine z_ci1 40 rfl rfl rfl (by omega) (by omega) ?_
          refine c_Pg_init0 (mw_eq _ _ _) rfl (fun h2 z2 hP2 hf2 => ?_)
          have f2 : ∀ x, x < h.1 → h2.2 x = h.2 x := fun x hx => (hf2 x hx).trans (mw_ne (by omega) rfl)
          have hC2 := hC.al f2 (by omega) h143
          refine z_cv1 43 rfl rfl (by first | exact c1 | exact hC2.1 | fail "lk") rfl (by omega) (by omega) ?_
          refine c_addPage hC2 (by omega) (Or.inr ⟨rfl, rfl, hP2⟩) (by omega) (by omega) (fun j hj => Or.inl (by have := (cp3 j hj).2.1; omega)) (fun s hs => Or.inr (by have := (cp5 s hs).2.1; omega)) hM (fun h3 hC3 hF3 => ?_)
          refine z_ireti rfl (by omega) (by omega) ?_
          have e9 : sp_page A (nI 0) = (nI A.pgs.length, A.wPgs (A.pgs ++ [(0, false, [], [])])) := by
            rw [sp_page, if_pos (by omega), if_neg (by omega), hk2, decide_eq_false (fun h9 => h9 (by decide))]
          rw [e9] at q
          exact q h3 hC3.inv ⟨fun x hx => (hF3.2 x (by omega)).trans (f2 x (by omega)), by rw [hF3.1]; omega⟩
        · skip
          refine z_aload 32 rfl rfl rfl ?_
          refine z_newA 35 h.1 rfl rfl rfl (by omega) (by omega) ?_
          first | refine z_dup 36 rfl rfl ?_ | refine z_dupi 36 rfl rfl ?_
          refine z_iload 37 rfl rfl rfl ?_
          refine z_ci1 40 rfl rfl rfl (by omega) (by omega) ?_
          refine c_Pg_initK (mw_eq _ _ _) rfl hK hK4 (fun h2 z2 hP2 hf2 => ?_)
          have f2 : ∀ x, x < h.1 → h2.2 x = h.2 x := fun x hx => (hf2 x hx).trans (mw_ne (by omega) rfl)
          have hC2 := hC.al f2 (by omega) h143
          refine z_cv1 43 rfl rfl (by first | exact c1 | exact hC2.1 | fail "lk") rfl (by omega) (by omega) ?_
          refine c_addPage hC2 (by omega) (Or.inl ⟨rfl, hP2⟩) (by omega) (by omega) (fun j hj => Or.inl (by have := (cp3 j hj).2.1; omega)) (fun s hs => Or.inr (by have := (cp5 s hs).2.1; omega)) hM (fun h3 hC3 hF3 => ?_)
          refine z_ireti rfl (by omega) (by omega) ?_
          have e9 : sp_page A (nI K) = (nI A.pgs.length, A.wPgs (A.pgs ++ [(K, true, [], [])])) := by
            rw [sp_page, if_pos (by omega), if_neg (by omega), hk2, decide_eq_true (by omega)]
          rw [e9] at q
          exact q h3 hC3.inv ⟨fun x hx => (hF3.2 x (by omega)).trans (f2 x (by omega)), by rw [hF3.1]; omega⟩
      · refine z_aload 25 rfl rfl rfl ?_
        refine z_push 27 (-6) rfl rfl rfl ?_
        refine z_cv1 30 rfl rfl (by first | exact c1 | exact hC2.1 | fail "lk") rfl (by omega) (by omega) ?_
        refine c_ansN hC (by decide) (fun h1 hC1 hX1 => ?_)
        refine z_ireti rfl (by omega) (by omega) ?_
        have e9 : sp_page A k = (-6, A.tell) := by
          rw [sp_page, if_pos (by omega), if_pos (by omega)]
        rw [e9] at q
        exact q h1 hC1.inv hX1
    · refine z_aload 10 rfl rfl rfl ?_
      refine z_push 11 (-1) rfl rfl rfl ?_
      refine z_cv1 14 rfl rfl (by first | exact c1 | exact hC2.1 | fail "lk") rfl (by omega) (by omega) ?_
      refine c_ansN hC (by decide) (fun h1 hC1 hX1 => ?_)
      refine z_ireti rfl (by omega) (by omega) ?_
      have e9 : sp_page A k = (-1, A.tell) := if_neg (by omega)
      rw [e9] at q
      exact q h1 hC1.inv hX1
set_option maxRecDepth 100000 in
theorem c_derive {d : Nat} {h : mH} {A : Ab} {pad : Nat → Nat} {sp : Option Nat} {res wrk : Nat} {p : Int32} {Q : mP} (hC : CI h A pad sp res wrk) (hA : AbW A) (h143 : 143 ≤ h.1) (hM : ∀ D m, A.mcs D = some m → m.1 < A.pgs.length)  (q : ∀ h', CInv h' (sp_derive A p).2 → KpX h h' → Q (some (.int (sp_derive A p).1)) h') : mWP (d + 3) 109 [.ref 1, .int p] h Q := by
  obtain ⟨c1, cr, cp, cb, cu, cq, cs, ck, cru, cm⟩ := id hC
  obtain ⟨cp0, ⟨pf, cp1, cp2⟩, cp3, cp4, cp5⟩ := id cp
  obtain ⟨hPB, hKb, hGd, hbb, hub, hsg1, hsg2, hFW, hFd⟩ := id hA
  refine z_in [some (.ref 1), some (.int p), none, none] (by rfl) rfl rfl rfl ?_
  refine z_aload 1 rfl rfl rfl ?_
  refine z_iload 2 rfl rfl rfl ?_
  refine z_cv1 5 rfl rfl (by first | exact c1 | exact cp1 | exact hpg | exact hC2.1 | exact dp1 | exact hpg2 | exact hn2 | exact hE2.2.choose_spec.choose_spec.choose_spec.choose_spec.choose_spec.1.1 | exact hn4 | exact c14 | exact cp14 | exact hpg4 | exact hS4.2.choose_spec.choose_spec.choose_spec.choose_spec.1.1 | exact hC5.1 | fail "lk") rfl (by omega) (by omega) ?_
  refine c_tableFinding hC hKb ?_
  refine z_istore 6 rfl rfl rfl rfl ?_
  refine z_iload 7 rfl rfl rfl ?_
  first | refine z_ine 10 rfl rfl (fun hc7 => ?_) (fun hc7 => ?_)
  · refine z_iload 26 rfl rfl rfl ?_
    refine z_ine 29 rfl rfl (fun _ => ?_) (fun h9 => absurd h9 hc7)
    refine z_iload 42 rfl rfl rfl ?_
    refine z_ieq 45 rfl rfl (fun h9 => absurd h9 hc7) (fun _ => ?_)
    refine z_aload 46 rfl rfl rfl ?_
    refine z_iload 47 rfl rfl rfl ?_
    refine z_cv1 50 rfl rfl (by first | exact c1 | exact cp1 | exact hpg | exact hC2.1 | exact dp1 | exact hpg2 | exact hn2 | exact hE2.2.choose_spec.choose_spec.choose_spec.choose_spec.choose_spec.1.1 | exact hn4 | exact c14 | exact cp14 | exact hpg4 | exact hS4.2.choose_spec.choose_spec.choose_spec.choose_spec.1.1 | exact hC5.1 | fail "lk") rfl (by omega) (by omega) ?_
    refine c_ansN hC (tfI_n hc7) (fun h1 hC1 hX1 => ?_)
    refine z_ireti rfl (by omega) (by omega) ?_
    have e9 : sp_derive A p = (tfI A.pgs p, A.tell) := tf_sp hc7
    rw [e9] at q
    exact q h1 hC1.inv hX1
  · obtain ⟨hr, hk0⟩ := tf_0 hc7
    obtain ⟨P, hP, rfl, hp1, hp2⟩ := ixP cp0 (inR_t hr)
    rw [hp2] at hk0
    obtain ⟨m9, rc9, hpg⟩ := hC.pg hP
    refine z_aload 11 rfl rfl rfl ?_
    refine z_get 14 rfl rfl (by first | exact c1 | exact cp1 | exact hpg | exact hC2.1 | exact dp1 | exact hpg2 | exact hn2 | exact hE2.2.choose_spec.choose_spec.choose_spec.choose_spec.choose_spec.1.1 | exact hn4 | exact c14 | exact cp14 | exact hpg4 | exact hS4.2.choose_spec.choose_spec.choose_spec.choose_spec.1.1 | exact hC5.1 | fail "lk") rfl ?_
    refine z_iload 15 rfl rfl rfl ?_
    refine z_qld 16 rfl rfl (by first | exact c1 | exact cp1 | exact hpg | exact hC2.1 | exact dp1 | exact hpg2 | exact hn2 | exact hE2.2.choose_spec.choose_spec.choose_spec.choose_spec.choose_spec.1.1 | exact hn4 | exact c14 | exact cp14 | exact hpg4 | exact hS4.2.choose_spec.choose_spec.choose_spec.choose_spec.1.1 | exact hC5.1 | fail "lk") (by decide) rfl (by omega) (by omega) (cp2 P hP) ?_
    refine z_get 19 rfl rfl (by first | exact c1 | exact cp1 | exact hpg | exact hC2.1 | exact dp1 | exact hpg2 | exact hn2 | exact hE2.2.choose_spec.choose_spec.choose_spec.choose_spec.choose_spec.1.1 | exact hn4 | exact c14 | exact cp14 | exact hpg4 | exact hS4.2.choose_spec.choose_spec.choose_spec.choose_spec.1.1 | exact hC5.1 | fail "lk") rfl ?_
    first | refine z_bne 22 rfl rfl (fun hc19 => ?_) (fun hc19 => ?_)
    · refine z_iload 26 rfl rfl rfl ?_
      refine z_ine 29 rfl rfl (fun h9 => absurd hc7 h9) (fun _ => ?_)
      refine z_aload 30 rfl rfl rfl ?_
      refine z_get 33 rfl rfl (by first | exact c1 | exact cp1 | exact hpg | exact hC2.1 | exact dp1 | exact hpg2 | exact hn2 | exact hE2.2.choose_spec.choose_spec.choose_spec.choose_spec.choose_spec.1.1 | exact hn4 | exact c14 | exact cp14 | exact hpg4 | exact hS4.2.choose_spec.choose_spec.choose_spec.choose_spec.1.1 | exact hC5.1 | fail "lk") rfl ?_
      refine z_push 35 (nI 10) rfl rfl rfl ?_
      refine z_nlt 38 rfl rfl (by omega) (by omega) (fun hc35 => ?_) (fun hc35 => ?_)
      · refine z_iload 42 rfl rfl rfl ?_
        refine z_ieq 45 rfl rfl (fun _ => ?_) (fun h9 => absurd hc7 h9)
        obtain ⟨hpad, hpad2, hPR⟩ := cp3 P hP
        rw [hc19] at hPR
        have hPC := PgR.cl hPR
        rcases hPC with ⟨_, m8, rc8, hd, nx, od, T, N, Ar, S, ⟨_, hEA, hSA, _⟩, _⟩ | ⟨h9, _⟩
        rotate_left
        · exact absurd hk0 h9
        refine z_newA 54 h.1 rfl rfl rfl (by omega) (by omega) ?_
        first | refine z_dup 55 rfl rfl ?_ | refine z_dupi 55 rfl rfl ?_
        refine z_push 56 (nI 0) rfl rfl rfl ?_
        refine z_ci1 59 rfl rfl rfl (by omega) (by omega) ?_
        refine c_Pg_init0 (mw_eq _ _ _) rfl (fun h2 z2 hP2 hf2 => ?_)
        have f2 : ∀ x, x < h.1 → h2.2 x = h.2 x := fun x hx => (hf2 x hx).trans (mw_ne (by omega) rfl)
        have hC2 := hC.al f2 (by omega) h143
        obtain ⟨dp0, ⟨df, dp1, dp2⟩, dp3, dp4, dp5⟩ := id hC2.2.2.1
        have hpg2 := (f2 (pad P) (by omega)).trans hpg
        obtain ⟨m7, rc7, hd7, nx7, od7, T7, N7, A7, S7, ⟨hn2, hE2, hS2, _⟩, _⟩ := id hP2
        have hEAo := hEA.e (h' := h2) (fun x x1 x2 => f2 x (by omega))
        have hSAo := hSA.e (h' := h2) (fun x x1 x2 => f2 x (by omega))
        refine z_astore 60 rfl rfl rfl rfl ?_
        refine z_aload 61 rfl rfl rfl ?_
        refine z_get 64 rfl rfl (by first | exact c1 | exact cp1 | exact hpg | exact hC2.1 | exact dp1 | exact hpg2 | exact hn2 | exact hE2.2.choose_spec.choose_spec.choose_spec.choose_spec.choose_spec.1.1 | exact hn4 | exact c14 | exact cp14 | exact hpg4 | exact hS4.2.choose_spec.choose_spec.choose_spec.choose_spec.1.1 | exact hC5.1 | fail "lk") rfl ?_
        refine z_aload 65 rfl rfl rfl ?_
        refine z_get 68 rfl rfl (by first | exact c1 | exact cp1 | exact hpg | exact hC2.1 | exact dp1 | exact hpg2 | exact hn2 | exact hE2.2.choose_spec.choose_spec.choose_spec.choose_spec.choose_spec.1.1 | exact hn4 | exact c14 | exact cp14 | exact hpg4 | exact hS4.2.choose_spec.choose_spec.choose_spec.choose_spec.1.1 | exact hC5.1 | fail "lk") rfl ?_
        refine z_iload 69 rfl rfl rfl ?_
        refine z_qld 70 rfl rfl (by first | exact c1 | exact cp1 | exact hpg | exact hC2.1 | exact dp1 | exact hpg2 | exact hn2 | exact hE2.2.choose_spec.choose_spec.choose_spec.choose_spec.choose_spec.1.1 | exact hn4 | exact c14 | exact cp14 | exact hpg4 | exact hS4.2.choose_spec.choose_spec.choose_spec.choose_spec.1.1 | exact hC5.1 | fail "lk") (by decide) rfl (by omega) (by omega) (dp2 P hP) ?_
        refine z_get 73 rfl rfl (by first | exact c1 | exact cp1 | exact hpg | exact hC2.1 | exact dp1 | exact hpg2 | exact hn2 | exact hE2.2.choose_spec.choose_spec.choose_spec.choose_spec.choose_spec.1.1 | exact hn4 | exact c14 | exact cp14 | exact hpg4 | exact hS4.2.choose_spec.choose_spec.choose_spec.choose_spec.1.1 | exact hC5.1 | fail "lk") rfl ?_
        refine z_cv1 76 rfl rfl (by first | exact c1 | exact cp1 | exact hpg | exact hC2.1 | exact dp1 | exact hpg2 | exact hn2 | exact hE2.2.choose_spec.choose_spec.choose_spec.choose_spec.choose_spec.1.1 | exact hn4 | exact c14 | exact cp14 | exact hpg4 | exact hS4.2.choose_spec.choose_spec.choose_spec.choose_spec.1.1 | exact hC5.1 | fail "lk") rfl (by omega) (by omega) ?_
        refine w_En_copy hE2 hEAo (by omega) (fun h4 hE4 hF4 => ?_)
        have hP4 := hP2.en hE4 hF4
        have c14 := (hF4.2 1 (by omega)).trans hC2.1
        have cp14 := (hF4.2 2 (by omega)).trans dp1
        have hpg4 := (hF4.2 (pad P) (by omega)).trans hpg2
        have hn4 := (hF4.2 h.1 (by omega)).trans hn2
        have hS4 := hS2.e (h' := h4) (fun x x1 x2 => hF4.2 x (by omega))
        have hSo4 := hSAo.e (h' := h4) (fun x x1 x2 => hF4.2 x (by omega))
        refine z_aload 77 rfl rfl rfl ?_
        refine z_get 80 rfl rfl (by first | exact c1 | exact cp1 | exact hpg | exact hC2.1 | exact dp1 | exact hpg2 | exact hn2 | exact hE2.2.choose_spec.choose_spec.choose_spec.choose_spec.choose_spec.1.1 | exact hn4 | exact c14 | exact cp14 | exact hpg4 | exact hS4.2.choose_spec.choose_spec.choose_spec.choose_spec.1.1 | exact hC5.1 | fail "lk") rfl ?_
        refine z_aload 81 rfl rfl rfl ?_
        refine z_get 84 rfl rfl (by first | exact c1 | exact cp1 | exact hpg | exact hC2.1 | exact dp1 | exact hpg2 | exact hn2 | exact hE2.2.choose_spec.choose_spec.choose_spec.choose_spec.choose_spec.1.1 | exact hn4 | exact c14 | exact cp14 | exact hpg4 | exact hS4.2.choose_spec.choose_spec.choose_spec.choose_spec.1.1 | exact hC5.1 | fail "lk") rfl ?_
        refine z_iload 85 rfl rfl rfl ?_
        refine z_qld 86 rfl rfl (by first | exact c1 | exact cp1 | exact hpg | exact hC2.1 | exact dp1 | exact hpg2 | exact hn2 | exact hE2.2.choose_spec.choose_spec.choose_spec.choose_spec.choose_spec.1.1 | exact hn4 | exact c14 | exact cp14 | exact hpg4 | exact hS4.2.choose_spec.choose_spec.choose_spec.choose_spec.1.1 | exact hC5.1 | fail "lk") (by decide) rfl (by omega) (by omega) (dp2 P hP) ?_
        refine z_get 89 rfl rfl (by first | exact c1 | exact cp1 | exact hpg | exact hC2.1 | exact dp1 | exact hpg2 | exact hn2 | exact hE2.2.choose_spec.choose_spec.choose_spec.choose_spec.choose_spec.1.1 | exact hn4 | exact c14 | exact cp14 | exact hpg4 | exact hS4.2.choose_spec.choose_spec.choose_spec.choose_spec.1.1 | exact hC5.1 | fail "lk") rfl ?_
        refine z_cv1 92 rfl rfl (by first | exact c1 | exact cp1 | exact hpg | exact hC2.1 | exact dp1 | exact hpg2 | exact hn2 | exact hE2.2.choose_spec.choose_spec.choose_spec.choose_spec.choose_spec.1.1 | exact hn4 | exact c14 | exact cp14 | exact hpg4 | exact hS4.2.choose_spec.choose_spec.choose_spec.choose_spec.1.1 | exact hC5.1 | fail "lk") rfl (by omega) (by omega) ?_
        refine w_Sh_copy hS4 hSo4 (by omega) (fun h5 hS5 hF5 => ?_)
        have hP5 := hP4.sh hS5 hF5
        have f5 : ∀ x, x < h.1 → h5.2 x = h.2 x := fun x hx => (hF5.2 x (by omega)).trans ((hF4.2 x (by omega)).trans (f2 x hx))
        have z5 : h5.1 = h.1 + 20 := hF5.1.trans (hF4.1.trans z2)
        have hC5 := hC.al f5 (by omega) h143
        refine z_aload 93 rfl rfl rfl ?_
        refine z_aload 94 rfl rfl rfl ?_
        refine z_cv1 97 rfl rfl (by first | exact c1 | exact cp1 | exact hpg | exact hC2.1 | exact dp1 | exact hpg2 | exact hn2 | exact hE2.2.choose_spec.choose_spec.choose_spec.choose_spec.choose_spec.1.1 | exact hn4 | exact c14 | exact cp14 | exact hpg4 | exact hS4.2.choose_spec.choose_spec.choose_spec.choose_spec.1.1 | exact hC5.1 | fail "lk") rfl (by omega) (by omega) ?_
        refine c_addPage hC5 (by omega) (Or.inr ⟨rfl, rfl, hP5⟩) (by omega) (by omega) (fun j hj => Or.inl (by have := (cp3 j hj).2.1; omega)) (fun s hs => Or.inr (by have := (cp5 s hs).2.1; omega)) hM (fun h3 hC3 hF3 => ?_)
        refine z_ireti rfl (by omega) (by omega) ?_
        have e9 : sp_derive A (nI P) = (nI A.pgs.length, A.wPgs (A.pgs ++ [(0, false, pgE A.pgs P, pgH A.pgs P)])) := by
          rw [sp_derive, if_pos hr, hp2, if_pos hk0, if_pos hc19, if_neg (by omega)]
        rw [e9] at q
        exact q h3 hC3.inv ⟨fun x hx => (hF3.2 x (by omega)).trans (f5 x (by omega)), by rw [hF3.1]; omega⟩
      · refine z_push 40 (-6) rfl rfl rfl ?_
        refine z_istore 41 rfl rfl rfl rfl ?_
        refine z_iload 42 rfl rfl rfl ?_
        refine z_jeq 45 rfl rfl (fun h9 => absurd h9 (by decide)) (fun _ => ?_)
        refine z_aload 46 rfl rfl rfl ?_
        refine z_iload 47 rfl rfl rfl ?_
        refine z_cv1 50 rfl rfl (by first | exact c1 | exact cp1 | exact hpg | exact hC2.1 | exact dp1 | exact hpg2 | exact hn2 | exact hE2.2.choose_spec.choose_spec.choose_spec.choose_spec.choose_spec.1.1 | exact hn4 | exact c14 | exact cp14 | exact hpg4 | exact hS4.2.choose_spec.choose_spec.choose_spec.choose_spec.1.1 | exact hC5.1 | fail "lk") rfl (by omega) (by omega) ?_
        refine c_ansN hC (by decide) (fun h1 hC1 hX1 => ?_)
        refine z_ireti rfl (by omega) (by omega) ?_
        have e9 : sp_derive A (nI P) = (-6, A.tell) := by
          rw [sp_derive, if_pos hr, hp2, if_pos hk0, if_pos hc19, if_pos (by omega)]
        rw [e9] at q
        exact q h1 hC1.inv hX1
    · refine z_push 24 (-5) rfl rfl rfl ?_
      refine z_istore 25 rfl rfl rfl rfl ?_
      refine z_iload 26 rfl rfl rfl ?_
      refine z_jne 29 rfl rfl (fun _ => ?_) (fun h9 => absurd h9 (by decide))
      refine z_iload 42 rfl rfl rfl ?_
      refine z_jeq 45 rfl rfl (fun h9 => absurd h9 (by decide)) (fun _ => ?_)
      refine z_aload 46 rfl rfl rfl ?_
      refine z_iload 47 rfl rfl rfl ?_
      refine z_cv1 50 rfl rfl (by first | exact c1 | exact cp1 | exact hpg | exact hC2.1 | exact dp1 | exact hpg2 | exact hn2 | exact hE2.2.choose_spec.choose_spec.choose_spec.choose_spec.choose_spec.1.1 | exact hn4 | exact c14 | exact cp14 | exact hpg4 | exact hS4.2.choose_spec.choose_spec.choose_spec.choose_spec.1.1 | exact hC5.1 | fail "lk") rfl (by omega) (by omega) ?_
      refine c_ansN hC (by decide) (fun h1 hC1 hX1 => ?_)
      refine z_ireti rfl (by omega) (by omega) ?_
      have e9 : sp_derive A (nI P) = (-5, A.tell) := by
        rw [sp_derive, if_pos hr, hp2, if_pos hk0, if_neg (by rw [hc19]; decide)]
      rw [e9] at q
      exact q h1 hC1.inv hX1
